/-! NAMES: methods and their decode rows, printed by an own text program out of the Statement. -/
abbrev b_Mo_close0 : ByteArray := prog_9_method_36_code
def y_Mo_close0 : MethodName := ⟨"CommitLedgerModel", "close", "()I"⟩
theorem d_Mo_close0_0 : decode b_Mo_close0 0 = .ok (.aload_n 0, 1) := by decide +kernel
theorem d_Mo_close0_1 : decode b_Mo_close0 1 = .ok (.aload_n 0, 1) := by decide +kernel
theorem d_Mo_close0_2 : decode b_Mo_close0 2 = .ok (.getfield 99, 3) := by decide +kernel
theorem d_Mo_close0_5 : decode b_Mo_close0 5 = .ok (.ifCond .eq 10, 3) := by decide +kernel
theorem d_Mo_close0_8 : decode b_Mo_close0 8 = .ok (.aload_n 0, 1) := by decide +kernel
theorem d_Mo_close0_9 : decode b_Mo_close0 9 = .ok (.getfield 109, 3) := by decide +kernel
theorem d_Mo_close0_12 : decode b_Mo_close0 12 = .ok (.ifCond .eq 7, 3) := by decide +kernel
theorem d_Mo_close0_15 : decode b_Mo_close0 15 = .ok (.iconst 1, 1) := by decide +kernel
theorem d_Mo_close0_16 : decode b_Mo_close0 16 = .ok (.goto 4, 3) := by decide +kernel
theorem d_Mo_close0_19 : decode b_Mo_close0 19 = .ok (.iconst 0, 1) := by decide +kernel
theorem d_Mo_close0_20 : decode b_Mo_close0 20 = .ok (.iconst 2, 1) := by decide +kernel
theorem d_Mo_close0_21 : decode b_Mo_close0 21 = .ok (.invokevirtual 152, 3) := by decide +kernel
theorem d_Mo_close0_24 : decode b_Mo_close0 24 = .ok (.ifCond .eq 11, 3) := by decide +kernel
theorem d_Mo_close0_27 : decode b_Mo_close0 27 = .ok (.aload_n 0, 1) := by decide +kernel
theorem d_Mo_close0_28 : decode b_Mo_close0 28 = .ok (.iconst 0, 1) := by decide +kernel
theorem d_Mo_close0_29 : decode b_Mo_close0 29 = .ok (.bipush 26, 2) := by decide +kernel
theorem d_Mo_close0_31 : decode b_Mo_close0 31 = .ok (.invokevirtual 148, 3) := by decide +kernel
theorem d_Mo_close0_34 : decode b_Mo_close0 34 = .ok (.ireturn, 1) := by decide +kernel
theorem d_Mo_close0_35 : decode b_Mo_close0 35 = .ok (.aload_n 0, 1) := by decide +kernel
theorem d_Mo_close0_36 : decode b_Mo_close0 36 = .ok (.getfield 106, 3) := by decide +kernel
theorem d_Mo_close0_39 : decode b_Mo_close0 39 = .ok (.ifCond .le 12, 3) := by decide +kernel
theorem d_Mo_close0_42 : decode b_Mo_close0 42 = .ok (.aload_n 0, 1) := by decide +kernel
theorem d_Mo_close0_43 : decode b_Mo_close0 43 = .ok (.iconst 0, 1) := by decide +kernel
theorem d_Mo_close0_44 : decode b_Mo_close0 44 = .ok (.iconst 1, 1) := by decide +kernel
theorem d_Mo_close0_45 : decode b_Mo_close0 45 = .ok (.invokevirtual 225, 3) := by decide +kernel
theorem d_Mo_close0_48 : decode b_Mo_close0 48 = .ok (.goto (-13), 3) := by decide +kernel
theorem d_Mo_close0_51 : decode b_Mo_close0 51 = .ok (.aload_n 0, 1) := by decide +kernel
theorem d_Mo_close0_52 : decode b_Mo_close0 52 = .ok (.invokevirtual 242, 3) := by decide +kernel
theorem d_Mo_close0_55 : decode b_Mo_close0 55 = .ok (.istore_n 1, 1) := by decide +kernel
theorem d_Mo_close0_56 : decode b_Mo_close0 56 = .ok (.aload_n 0, 1) := by decide +kernel
theorem d_Mo_close0_57 : decode b_Mo_close0 57 = .ok (.getfield 84, 3) := by decide +kernel
theorem d_Mo_close0_60 : decode b_Mo_close0 60 = .ok (.ifCond .ne 8, 3) := by decide +kernel
theorem d_Mo_close0_63 : decode b_Mo_close0 63 = .ok (.aload_n 0, 1) := by decide +kernel
theorem d_Mo_close0_64 : decode b_Mo_close0 64 = .ok (.iconst 0, 1) := by decide +kernel
theorem d_Mo_close0_65 : decode b_Mo_close0 65 = .ok (.invokevirtual 245, 3) := by decide +kernel
theorem d_Mo_close0_68 : decode b_Mo_close0 68 = .ok (.aload_n 0, 1) := by decide +kernel
theorem d_Mo_close0_69 : decode b_Mo_close0 69 = .ok (.iload_n 1, 1) := by decide +kernel
theorem d_Mo_close0_70 : decode b_Mo_close0 70 = .ok (.bipush 26, 2) := by decide +kernel
theorem d_Mo_close0_72 : decode b_Mo_close0 72 = .ok (.invokevirtual 175, 3) := by decide +kernel
theorem d_Mo_close0_75 : decode b_Mo_close0 75 = .ok (.ireturn, 1) := by decide +kernel
theorem kc_Mo_close0 : Cond.code y_Mo_close0 b_Mo_close0 2 (some .int) ∈ gx_all := gx_in 1234 (by decide +kernel)
abbrev b_Mo_close1 : ByteArray := prog_9_method_35_code
def y_Mo_close1 : MethodName := ⟨"CommitLedgerModel", "close", "(I)V"⟩
theorem d_Mo_close1_0 : decode b_Mo_close1 0 = .ok (.aload_n 0, 1) := by decide +kernel
theorem d_Mo_close1_1 : decode b_Mo_close1 1 = .ok (.iconst 0, 1) := by decide +kernel
theorem d_Mo_close1_2 : decode b_Mo_close1 2 = .ok (.putfield 99, 3) := by decide +kernel
theorem d_Mo_close1_5 : decode b_Mo_close1 5 = .ok (.aload_n 0, 1) := by decide +kernel
theorem d_Mo_close1_6 : decode b_Mo_close1 6 = .ok (.iconst 0, 1) := by decide +kernel
theorem d_Mo_close1_7 : decode b_Mo_close1 7 = .ok (.putfield 106, 3) := by decide +kernel
theorem d_Mo_close1_10 : decode b_Mo_close1 10 = .ok (.aload_n 0, 1) := by decide +kernel
theorem d_Mo_close1_11 : decode b_Mo_close1 11 = .ok (.iconst 0, 1) := by decide +kernel
theorem d_Mo_close1_12 : decode b_Mo_close1 12 = .ok (.putfield 109, 3) := by decide +kernel
theorem d_Mo_close1_15 : decode b_Mo_close1 15 = .ok (.aload_n 0, 1) := by decide +kernel
theorem d_Mo_close1_16 : decode b_Mo_close1 16 = .ok (.iconst 0, 1) := by decide +kernel
theorem d_Mo_close1_17 : decode b_Mo_close1 17 = .ok (.putfield 172, 3) := by decide +kernel
theorem d_Mo_close1_20 : decode b_Mo_close1 20 = .ok (.return_, 1) := by decide +kernel
theorem kc_Mo_close1 : Cond.code y_Mo_close1 b_Mo_close1 2 none ∈ gx_all := gx_in 1230 (by decide +kernel)
abbrev b_Mo_commit : ByteArray := prog_9_method_33_code
def y_Mo_commit : MethodName := ⟨"CommitLedgerModel", "commit", "()I"⟩
theorem d_Mo_commit_0 : decode b_Mo_commit 0 = .ok (.aload_n 0, 1) := by decide +kernel
theorem d_Mo_commit_1 : decode b_Mo_commit 1 = .ok (.aload_n 0, 1) := by decide +kernel
theorem d_Mo_commit_2 : decode b_Mo_commit 2 = .ok (.getfield 99, 3) := by decide +kernel
theorem d_Mo_commit_5 : decode b_Mo_commit 5 = .ok (.ifCond .ne 7, 3) := by decide +kernel
theorem d_Mo_commit_8 : decode b_Mo_commit 8 = .ok (.iconst 1, 1) := by decide +kernel
theorem d_Mo_commit_9 : decode b_Mo_commit 9 = .ok (.goto 4, 3) := by decide +kernel
theorem d_Mo_commit_12 : decode b_Mo_commit 12 = .ok (.iconst 0, 1) := by decide +kernel
theorem d_Mo_commit_13 : decode b_Mo_commit 13 = .ok (.iconst 2, 1) := by decide +kernel
theorem d_Mo_commit_14 : decode b_Mo_commit 14 = .ok (.invokevirtual 152, 3) := by decide +kernel
theorem d_Mo_commit_17 : decode b_Mo_commit 17 = .ok (.ifCond .eq 11, 3) := by decide +kernel
theorem d_Mo_commit_20 : decode b_Mo_commit 20 = .ok (.aload_n 0, 1) := by decide +kernel
theorem d_Mo_commit_21 : decode b_Mo_commit 21 = .ok (.iconst 0, 1) := by decide +kernel
theorem d_Mo_commit_22 : decode b_Mo_commit 22 = .ok (.bipush 26, 2) := by decide +kernel
theorem d_Mo_commit_24 : decode b_Mo_commit 24 = .ok (.invokevirtual 148, 3) := by decide +kernel
theorem d_Mo_commit_27 : decode b_Mo_commit 27 = .ok (.ireturn, 1) := by decide +kernel
theorem d_Mo_commit_28 : decode b_Mo_commit 28 = .ok (.aload_n 0, 1) := by decide +kernel
theorem d_Mo_commit_29 : decode b_Mo_commit 29 = .ok (.aload_n 0, 1) := by decide +kernel
theorem d_Mo_commit_30 : decode b_Mo_commit 30 = .ok (.invokevirtual 242, 3) := by decide +kernel
theorem d_Mo_commit_33 : decode b_Mo_commit 33 = .ok (.bipush 26, 2) := by decide +kernel
theorem d_Mo_commit_35 : decode b_Mo_commit 35 = .ok (.invokevirtual 175, 3) := by decide +kernel
theorem d_Mo_commit_38 : decode b_Mo_commit 38 = .ok (.ireturn, 1) := by decide +kernel
theorem kc_Mo_commit : Cond.code y_Mo_commit b_Mo_commit 1 (some .int) ∈ gx_all := gx_in 1218 (by decide +kernel)
abbrev b_Mo_committing : ByteArray := prog_9_method_32_code
def y_Mo_committing : MethodName := ⟨"CommitLedgerModel", "committing", "()I"⟩
theorem d_Mo_committing_0 : decode b_Mo_committing 0 = .ok (.aload_n 0, 1) := by decide +kernel
theorem d_Mo_committing_1 : decode b_Mo_committing 1 = .ok (.getfield 109, 3) := by decide +kernel
theorem d_Mo_committing_4 : decode b_Mo_committing 4 = .ok (.ifCond .ne 24, 3) := by decide +kernel
theorem d_Mo_committing_7 : decode b_Mo_committing 7 = .ok (.aload_n 0, 1) := by decide +kernel
theorem d_Mo_committing_8 : decode b_Mo_committing 8 = .ok (.invokevirtual 239, 3) := by decide +kernel
theorem d_Mo_committing_11 : decode b_Mo_committing 11 = .ok (.istore_n 1, 1) := by decide +kernel
theorem d_Mo_committing_12 : decode b_Mo_committing 12 = .ok (.aload_n 0, 1) := by decide +kernel
theorem d_Mo_committing_13 : decode b_Mo_committing 13 = .ok (.getfield 84, 3) := by decide +kernel
theorem d_Mo_committing_16 : decode b_Mo_committing 16 = .ok (.ifCond .ne 7, 3) := by decide +kernel
theorem d_Mo_committing_19 : decode b_Mo_committing 19 = .ok (.iload_n 1, 1) := by decide +kernel
theorem d_Mo_committing_20 : decode b_Mo_committing 20 = .ok (.ifCond .ne 8, 3) := by decide +kernel
theorem d_Mo_committing_23 : decode b_Mo_committing 23 = .ok (.aload_n 0, 1) := by decide +kernel
theorem d_Mo_committing_24 : decode b_Mo_committing 24 = .ok (.getfield 135, 3) := by decide +kernel
theorem d_Mo_committing_27 : decode b_Mo_committing 27 = .ok (.ireturn, 1) := by decide +kernel
theorem d_Mo_committing_28 : decode b_Mo_committing 28 = .ok (.aload_n 0, 1) := by decide +kernel
theorem d_Mo_committing_29 : decode b_Mo_committing 29 = .ok (.invokevirtual 115, 3) := by decide +kernel
theorem d_Mo_committing_32 : decode b_Mo_committing 32 = .ok (.ifCond .ne 5, 3) := by decide +kernel
theorem d_Mo_committing_35 : decode b_Mo_committing 35 = .ok (.iconst 0, 1) := by decide +kernel
theorem d_Mo_committing_36 : decode b_Mo_committing 36 = .ok (.ireturn, 1) := by decide +kernel
theorem d_Mo_committing_37 : decode b_Mo_committing 37 = .ok (.aload_n 0, 1) := by decide +kernel
theorem d_Mo_committing_38 : decode b_Mo_committing 38 = .ok (.getfield 44, 3) := by decide +kernel
theorem d_Mo_committing_41 : decode b_Mo_committing 41 = .ok (.aload_n 0, 1) := by decide +kernel
theorem d_Mo_committing_42 : decode b_Mo_committing 42 = .ok (.getfield 47, 3) := by decide +kernel
theorem d_Mo_committing_45 : decode b_Mo_committing 45 = .ok (.invokevirtual 162, 3) := by decide +kernel
theorem d_Mo_committing_48 : decode b_Mo_committing 48 = .ok (.aload_n 0, 1) := by decide +kernel
theorem d_Mo_committing_49 : decode b_Mo_committing 49 = .ok (.iconst 0, 1) := by decide +kernel
theorem d_Mo_committing_50 : decode b_Mo_committing 50 = .ok (.putfield 109, 3) := by decide +kernel
theorem d_Mo_committing_53 : decode b_Mo_committing 53 = .ok (.aload_n 0, 1) := by decide +kernel
theorem d_Mo_committing_54 : decode b_Mo_committing 54 = .ok (.dup, 1) := by decide +kernel
theorem d_Mo_committing_55 : decode b_Mo_committing 55 = .ok (.getfield 135, 3) := by decide +kernel
theorem d_Mo_committing_58 : decode b_Mo_committing 58 = .ok (.iconst 1, 1) := by decide +kernel
theorem d_Mo_committing_59 : decode b_Mo_committing 59 = .ok (.iadd, 1) := by decide +kernel
theorem d_Mo_committing_60 : decode b_Mo_committing 60 = .ok (.putfield 135, 3) := by decide +kernel
theorem d_Mo_committing_63 : decode b_Mo_committing 63 = .ok (.aload_n 0, 1) := by decide +kernel
theorem d_Mo_committing_64 : decode b_Mo_committing 64 = .ok (.getfield 135, 3) := by decide +kernel
theorem d_Mo_committing_67 : decode b_Mo_committing 67 = .ok (.ireturn, 1) := by decide +kernel
theorem kc_Mo_committing : Cond.code y_Mo_committing b_Mo_committing 2 (some .int) ∈ gx_all := gx_in 1222 (by decide +kernel)
abbrev b_Mo_corrupt : ByteArray := prog_9_method_13_code
def y_Mo_corrupt : MethodName := ⟨"CommitLedgerModel", "corrupt", "()Z"⟩
theorem d_Mo_corrupt_0 : decode b_Mo_corrupt 0 = .ok (.aload_n 0, 1) := by decide +kernel
theorem d_Mo_corrupt_1 : decode b_Mo_corrupt 1 = .ok (.getfield 27, 3) := by decide +kernel
theorem d_Mo_corrupt_4 : decode b_Mo_corrupt 4 = .ok (.aload_n 0, 1) := by decide +kernel
theorem d_Mo_corrupt_5 : decode b_Mo_corrupt 5 = .ok (.aload_n 0, 1) := by decide +kernel
theorem d_Mo_corrupt_6 : decode b_Mo_corrupt 6 = .ok (.getfield 44, 3) := by decide +kernel
theorem d_Mo_corrupt_9 : decode b_Mo_corrupt 9 = .ok (.getfield 142, 3) := by decide +kernel
theorem d_Mo_corrupt_12 : decode b_Mo_corrupt 12 = .ok (.invokevirtual 128, 3) := by decide +kernel
theorem d_Mo_corrupt_15 : decode b_Mo_corrupt 15 = .ok (.baload, 1) := by decide +kernel
theorem d_Mo_corrupt_16 : decode b_Mo_corrupt 16 = .ok (.ifCond .eq 5, 3) := by decide +kernel
theorem d_Mo_corrupt_19 : decode b_Mo_corrupt 19 = .ok (.iconst 1, 1) := by decide +kernel
theorem d_Mo_corrupt_20 : decode b_Mo_corrupt 20 = .ok (.ireturn, 1) := by decide +kernel
theorem d_Mo_corrupt_21 : decode b_Mo_corrupt 21 = .ok (.iconst 0, 1) := by decide +kernel
theorem d_Mo_corrupt_22 : decode b_Mo_corrupt 22 = .ok (.istore_n 1, 1) := by decide +kernel
theorem d_Mo_corrupt_23 : decode b_Mo_corrupt 23 = .ok (.iload_n 1, 1) := by decide +kernel
theorem d_Mo_corrupt_24 : decode b_Mo_corrupt 24 = .ok (.aload_n 0, 1) := by decide +kernel
theorem d_Mo_corrupt_25 : decode b_Mo_corrupt 25 = .ok (.getfield 44, 3) := by decide +kernel
theorem d_Mo_corrupt_28 : decode b_Mo_corrupt 28 = .ok (.getfield 122, 3) := by decide +kernel
theorem d_Mo_corrupt_31 : decode b_Mo_corrupt 31 = .ok (.if_icmp .ge 65, 3) := by decide +kernel
theorem d_Mo_corrupt_34 : decode b_Mo_corrupt 34 = .ok (.aload_n 0, 1) := by decide +kernel
theorem d_Mo_corrupt_35 : decode b_Mo_corrupt 35 = .ok (.getfield 27, 3) := by decide +kernel
theorem d_Mo_corrupt_38 : decode b_Mo_corrupt 38 = .ok (.aload_n 0, 1) := by decide +kernel
theorem d_Mo_corrupt_39 : decode b_Mo_corrupt 39 = .ok (.aload_n 0, 1) := by decide +kernel
theorem d_Mo_corrupt_40 : decode b_Mo_corrupt 40 = .ok (.getfield 44, 3) := by decide +kernel
theorem d_Mo_corrupt_43 : decode b_Mo_corrupt 43 = .ok (.getfield 125, 3) := by decide +kernel
theorem d_Mo_corrupt_46 : decode b_Mo_corrupt 46 = .ok (.iload_n 1, 1) := by decide +kernel
theorem d_Mo_corrupt_47 : decode b_Mo_corrupt 47 = .ok (.iaload, 1) := by decide +kernel
theorem d_Mo_corrupt_48 : decode b_Mo_corrupt 48 = .ok (.invokevirtual 128, 3) := by decide +kernel
theorem d_Mo_corrupt_51 : decode b_Mo_corrupt 51 = .ok (.baload, 1) := by decide +kernel
theorem d_Mo_corrupt_52 : decode b_Mo_corrupt 52 = .ok (.ifCond .ne 36, 3) := by decide +kernel
theorem d_Mo_corrupt_55 : decode b_Mo_corrupt 55 = .ok (.aload_n 0, 1) := by decide +kernel
theorem d_Mo_corrupt_56 : decode b_Mo_corrupt 56 = .ok (.getfield 44, 3) := by decide +kernel
theorem d_Mo_corrupt_59 : decode b_Mo_corrupt 59 = .ok (.getfield 132, 3) := by decide +kernel
theorem d_Mo_corrupt_62 : decode b_Mo_corrupt 62 = .ok (.iload_n 1, 1) := by decide +kernel
theorem d_Mo_corrupt_63 : decode b_Mo_corrupt 63 = .ok (.iaload, 1) := by decide +kernel
theorem d_Mo_corrupt_64 : decode b_Mo_corrupt 64 = .ok (.ifCond .lt 26, 3) := by decide +kernel
theorem d_Mo_corrupt_67 : decode b_Mo_corrupt 67 = .ok (.aload_n 0, 1) := by decide +kernel
theorem d_Mo_corrupt_68 : decode b_Mo_corrupt 68 = .ok (.getfield 27, 3) := by decide +kernel
theorem d_Mo_corrupt_71 : decode b_Mo_corrupt 71 = .ok (.aload_n 0, 1) := by decide +kernel
theorem d_Mo_corrupt_72 : decode b_Mo_corrupt 72 = .ok (.aload_n 0, 1) := by decide +kernel
theorem d_Mo_corrupt_73 : decode b_Mo_corrupt 73 = .ok (.getfield 44, 3) := by decide +kernel
theorem d_Mo_corrupt_76 : decode b_Mo_corrupt 76 = .ok (.getfield 132, 3) := by decide +kernel
theorem d_Mo_corrupt_79 : decode b_Mo_corrupt 79 = .ok (.iload_n 1, 1) := by decide +kernel
theorem d_Mo_corrupt_80 : decode b_Mo_corrupt 80 = .ok (.iaload, 1) := by decide +kernel
theorem d_Mo_corrupt_81 : decode b_Mo_corrupt 81 = .ok (.invokevirtual 128, 3) := by decide +kernel
theorem d_Mo_corrupt_84 : decode b_Mo_corrupt 84 = .ok (.baload, 1) := by decide +kernel
theorem d_Mo_corrupt_85 : decode b_Mo_corrupt 85 = .ok (.ifCond .eq 5, 3) := by decide +kernel
theorem d_Mo_corrupt_88 : decode b_Mo_corrupt 88 = .ok (.iconst 1, 1) := by decide +kernel
theorem d_Mo_corrupt_89 : decode b_Mo_corrupt 89 = .ok (.ireturn, 1) := by decide +kernel
theorem d_Mo_corrupt_90 : decode b_Mo_corrupt 90 = .ok (.iinc 1 1, 3) := by decide +kernel
theorem d_Mo_corrupt_93 : decode b_Mo_corrupt 93 = .ok (.goto (-70), 3) := by decide +kernel
theorem d_Mo_corrupt_96 : decode b_Mo_corrupt 96 = .ok (.iconst 0, 1) := by decide +kernel
theorem d_Mo_corrupt_97 : decode b_Mo_corrupt 97 = .ok (.ireturn, 1) := by decide +kernel
theorem kc_Mo_corrupt : Cond.code y_Mo_corrupt b_Mo_corrupt 2 (some .boolean) ∈ gx_all := gx_in 1087 (by decide +kernel)
abbrev b_Mo_count : ByteArray := prog_9_method_51_code
def y_Mo_count : MethodName := ⟨"CommitLedgerModel", "count", "(I)I"⟩
theorem d_Mo_count_0 : decode b_Mo_count 0 = .ok (.aload_n 0, 1) := by decide +kernel
theorem d_Mo_count_1 : decode b_Mo_count 1 = .ok (.aload_n 0, 1) := by decide +kernel
theorem d_Mo_count_2 : decode b_Mo_count 2 = .ok (.iload_n 1, 1) := by decide +kernel
theorem d_Mo_count_3 : decode b_Mo_count 3 = .ok (.invokevirtual 263, 3) := by decide +kernel
theorem d_Mo_count_6 : decode b_Mo_count 6 = .ok (.iconst 0, 1) := by decide +kernel
theorem d_Mo_count_7 : decode b_Mo_count 7 = .ok (.invokevirtual 148, 3) := by decide +kernel
theorem d_Mo_count_10 : decode b_Mo_count 10 = .ok (.ireturn, 1) := by decide +kernel
theorem kc_Mo_count : Cond.code y_Mo_count b_Mo_count 2 (some .int) ∈ gx_all := gx_in 1292 (by decide +kernel)
abbrev b_Mo_counted : ByteArray := prog_9_method_52_code
def y_Mo_counted : MethodName := ⟨"CommitLedgerModel", "counted", "(I)I"⟩
theorem d_Mo_counted_0 : decode b_Mo_counted 0 = .ok (.iload_n 1, 1) := by decide +kernel
theorem d_Mo_counted_1 : decode b_Mo_counted 1 = .ok (.tableswitch 247 0 11 #[63, 68, 73, 78, 83, 96, 112, 131, 155, 192, 208, 227], 63) := by decide +kernel
theorem d_Mo_counted_64 : decode b_Mo_counted 64 = .ok (.aload_n 0, 1) := by decide +kernel
theorem d_Mo_counted_65 : decode b_Mo_counted 65 = .ok (.getfield 90, 3) := by decide +kernel
theorem d_Mo_counted_68 : decode b_Mo_counted 68 = .ok (.ireturn, 1) := by decide +kernel
theorem d_Mo_counted_69 : decode b_Mo_counted 69 = .ok (.aload_n 0, 1) := by decide +kernel
theorem d_Mo_counted_70 : decode b_Mo_counted 70 = .ok (.getfield 93, 3) := by decide +kernel
theorem d_Mo_counted_73 : decode b_Mo_counted 73 = .ok (.ireturn, 1) := by decide +kernel
theorem d_Mo_counted_74 : decode b_Mo_counted 74 = .ok (.aload_n 0, 1) := by decide +kernel
theorem d_Mo_counted_75 : decode b_Mo_counted 75 = .ok (.invokevirtual 266, 3) := by decide +kernel
theorem d_Mo_counted_78 : decode b_Mo_counted 78 = .ok (.ireturn, 1) := by decide +kernel
theorem d_Mo_counted_79 : decode b_Mo_counted 79 = .ok (.aload_n 0, 1) := by decide +kernel
theorem d_Mo_counted_80 : decode b_Mo_counted 80 = .ok (.getfield 135, 3) := by decide +kernel
theorem d_Mo_counted_83 : decode b_Mo_counted 83 = .ok (.ireturn, 1) := by decide +kernel
theorem d_Mo_counted_84 : decode b_Mo_counted 84 = .ok (.aload_n 0, 1) := by decide +kernel
theorem d_Mo_counted_85 : decode b_Mo_counted 85 = .ok (.getfield 99, 3) := by decide +kernel
theorem d_Mo_counted_88 : decode b_Mo_counted 88 = .ok (.ifCond .eq 7, 3) := by decide +kernel
theorem d_Mo_counted_91 : decode b_Mo_counted 91 = .ok (.iconst 1, 1) := by decide +kernel
theorem d_Mo_counted_92 : decode b_Mo_counted 92 = .ok (.goto 4, 3) := by decide +kernel
theorem d_Mo_counted_95 : decode b_Mo_counted 95 = .ok (.iconst 0, 1) := by decide +kernel
theorem d_Mo_counted_96 : decode b_Mo_counted 96 = .ok (.ireturn, 1) := by decide +kernel
theorem d_Mo_counted_97 : decode b_Mo_counted 97 = .ok (.aload_n 0, 1) := by decide +kernel
theorem d_Mo_counted_98 : decode b_Mo_counted 98 = .ok (.getfield 99, 3) := by decide +kernel
theorem d_Mo_counted_101 : decode b_Mo_counted 101 = .ok (.ifCond .eq 10, 3) := by decide +kernel
theorem d_Mo_counted_104 : decode b_Mo_counted 104 = .ok (.aload_n 0, 1) := by decide +kernel
theorem d_Mo_counted_105 : decode b_Mo_counted 105 = .ok (.getfield 172, 3) := by decide +kernel
theorem d_Mo_counted_108 : decode b_Mo_counted 108 = .ok (.goto 4, 3) := by decide +kernel
theorem d_Mo_counted_111 : decode b_Mo_counted 111 = .ok (.iconst 0, 1) := by decide +kernel
theorem d_Mo_counted_112 : decode b_Mo_counted 112 = .ok (.ireturn, 1) := by decide +kernel
theorem d_Mo_counted_113 : decode b_Mo_counted 113 = .ok (.aload_n 0, 1) := by decide +kernel
theorem d_Mo_counted_114 : decode b_Mo_counted 114 = .ok (.getfield 99, 3) := by decide +kernel
theorem d_Mo_counted_117 : decode b_Mo_counted 117 = .ok (.ifCond .eq 13, 3) := by decide +kernel
theorem d_Mo_counted_120 : decode b_Mo_counted 120 = .ok (.aload_n 0, 1) := by decide +kernel
theorem d_Mo_counted_121 : decode b_Mo_counted 121 = .ok (.getfield 40, 3) := by decide +kernel
theorem d_Mo_counted_124 : decode b_Mo_counted 124 = .ok (.getfield 122, 3) := by decide +kernel
theorem d_Mo_counted_127 : decode b_Mo_counted 127 = .ok (.goto 4, 3) := by decide +kernel
theorem d_Mo_counted_130 : decode b_Mo_counted 130 = .ok (.iconst 0, 1) := by decide +kernel
theorem d_Mo_counted_131 : decode b_Mo_counted 131 = .ok (.ireturn, 1) := by decide +kernel
theorem d_Mo_counted_132 : decode b_Mo_counted 132 = .ok (.aload_n 0, 1) := by decide +kernel
theorem d_Mo_counted_133 : decode b_Mo_counted 133 = .ok (.getfield 99, 3) := by decide +kernel
theorem d_Mo_counted_136 : decode b_Mo_counted 136 = .ok (.ifCond .eq 18, 3) := by decide +kernel
theorem d_Mo_counted_139 : decode b_Mo_counted 139 = .ok (.aload_n 0, 1) := by decide +kernel
theorem d_Mo_counted_140 : decode b_Mo_counted 140 = .ok (.getfield 40, 3) := by decide +kernel
theorem d_Mo_counted_143 : decode b_Mo_counted 143 = .ok (.invokevirtual 261, 3) := by decide +kernel
theorem d_Mo_counted_146 : decode b_Mo_counted 146 = .ok (.aload_n 0, 1) := by decide +kernel
theorem d_Mo_counted_147 : decode b_Mo_counted 147 = .ok (.invokevirtual 269, 3) := by decide +kernel
theorem d_Mo_counted_150 : decode b_Mo_counted 150 = .ok (.iadd, 1) := by decide +kernel
theorem d_Mo_counted_151 : decode b_Mo_counted 151 = .ok (.goto 4, 3) := by decide +kernel
theorem d_Mo_counted_154 : decode b_Mo_counted 154 = .ok (.iconst 0, 1) := by decide +kernel
theorem d_Mo_counted_155 : decode b_Mo_counted 155 = .ok (.ireturn, 1) := by decide +kernel
theorem d_Mo_counted_156 : decode b_Mo_counted 156 = .ok (.aload_n 0, 1) := by decide +kernel
theorem d_Mo_counted_157 : decode b_Mo_counted 157 = .ok (.getfield 99, 3) := by decide +kernel
theorem d_Mo_counted_160 : decode b_Mo_counted 160 = .ok (.ifCond .eq 31, 3) := by decide +kernel
theorem d_Mo_counted_163 : decode b_Mo_counted 163 = .ok (.aload_n 0, 1) := by decide +kernel
theorem d_Mo_counted_164 : decode b_Mo_counted 164 = .ok (.getfield 40, 3) := by decide +kernel
theorem d_Mo_counted_167 : decode b_Mo_counted 167 = .ok (.invokevirtual 200, 3) := by decide +kernel
theorem d_Mo_counted_170 : decode b_Mo_counted 170 = .ok (.aload_n 0, 1) := by decide +kernel
theorem d_Mo_counted_171 : decode b_Mo_counted 171 = .ok (.getfield 40, 3) := by decide +kernel
theorem d_Mo_counted_174 : decode b_Mo_counted 174 = .ok (.invokevirtual 261, 3) := by decide +kernel
theorem d_Mo_counted_177 : decode b_Mo_counted 177 = .ok (.isub, 1) := by decide +kernel
theorem d_Mo_counted_178 : decode b_Mo_counted 178 = .ok (.aload_n 0, 1) := by decide +kernel
theorem d_Mo_counted_179 : decode b_Mo_counted 179 = .ok (.getfield 172, 3) := by decide +kernel
theorem d_Mo_counted_182 : decode b_Mo_counted 182 = .ok (.iadd, 1) := by decide +kernel
theorem d_Mo_counted_183 : decode b_Mo_counted 183 = .ok (.aload_n 0, 1) := by decide +kernel
theorem d_Mo_counted_184 : decode b_Mo_counted 184 = .ok (.invokevirtual 269, 3) := by decide +kernel
theorem d_Mo_counted_187 : decode b_Mo_counted 187 = .ok (.isub, 1) := by decide +kernel
theorem d_Mo_counted_188 : decode b_Mo_counted 188 = .ok (.goto 4, 3) := by decide +kernel
theorem d_Mo_counted_191 : decode b_Mo_counted 191 = .ok (.iconst 0, 1) := by decide +kernel
theorem d_Mo_counted_192 : decode b_Mo_counted 192 = .ok (.ireturn, 1) := by decide +kernel
theorem d_Mo_counted_193 : decode b_Mo_counted 193 = .ok (.aload_n 0, 1) := by decide +kernel
theorem d_Mo_counted_194 : decode b_Mo_counted 194 = .ok (.getfield 99, 3) := by decide +kernel
theorem d_Mo_counted_197 : decode b_Mo_counted 197 = .ok (.ifCond .eq 10, 3) := by decide +kernel
theorem d_Mo_counted_200 : decode b_Mo_counted 200 = .ok (.aload_n 0, 1) := by decide +kernel
theorem d_Mo_counted_201 : decode b_Mo_counted 201 = .ok (.getfield 106, 3) := by decide +kernel
theorem d_Mo_counted_204 : decode b_Mo_counted 204 = .ok (.goto 4, 3) := by decide +kernel
theorem d_Mo_counted_207 : decode b_Mo_counted 207 = .ok (.iconst 0, 1) := by decide +kernel
theorem d_Mo_counted_208 : decode b_Mo_counted 208 = .ok (.ireturn, 1) := by decide +kernel
theorem d_Mo_counted_209 : decode b_Mo_counted 209 = .ok (.aload_n 0, 1) := by decide +kernel
theorem d_Mo_counted_210 : decode b_Mo_counted 210 = .ok (.getfield 99, 3) := by decide +kernel
theorem d_Mo_counted_213 : decode b_Mo_counted 213 = .ok (.ifCond .eq 13, 3) := by decide +kernel
theorem d_Mo_counted_216 : decode b_Mo_counted 216 = .ok (.aload_n 0, 1) := by decide +kernel
theorem d_Mo_counted_217 : decode b_Mo_counted 217 = .ok (.getfield 40, 3) := by decide +kernel
theorem d_Mo_counted_220 : decode b_Mo_counted 220 = .ok (.getfield 159, 3) := by decide +kernel
theorem d_Mo_counted_223 : decode b_Mo_counted 223 = .ok (.goto 4, 3) := by decide +kernel
theorem d_Mo_counted_226 : decode b_Mo_counted 226 = .ok (.iconst 0, 1) := by decide +kernel
theorem d_Mo_counted_227 : decode b_Mo_counted 227 = .ok (.ireturn, 1) := by decide +kernel
theorem d_Mo_counted_228 : decode b_Mo_counted 228 = .ok (.aload_n 0, 1) := by decide +kernel
theorem d_Mo_counted_229 : decode b_Mo_counted 229 = .ok (.getfield 99, 3) := by decide +kernel
theorem d_Mo_counted_232 : decode b_Mo_counted 232 = .ok (.ifCond .eq 14, 3) := by decide +kernel
theorem d_Mo_counted_235 : decode b_Mo_counted 235 = .ok (.aload_n 0, 1) := by decide +kernel
theorem d_Mo_counted_236 : decode b_Mo_counted 236 = .ok (.getfield 109, 3) := by decide +kernel
theorem d_Mo_counted_239 : decode b_Mo_counted 239 = .ok (.ifCond .eq 7, 3) := by decide +kernel
theorem d_Mo_counted_242 : decode b_Mo_counted 242 = .ok (.iconst 1, 1) := by decide +kernel
theorem d_Mo_counted_243 : decode b_Mo_counted 243 = .ok (.goto 4, 3) := by decide +kernel
theorem d_Mo_counted_246 : decode b_Mo_counted 246 = .ok (.iconst 0, 1) := by decide +kernel
theorem d_Mo_counted_247 : decode b_Mo_counted 247 = .ok (.ireturn, 1) := by decide +kernel
theorem d_Mo_counted_248 : decode b_Mo_counted 248 = .ok (.iconst (-1), 1) := by decide +kernel
theorem d_Mo_counted_249 : decode b_Mo_counted 249 = .ok (.ireturn, 1) := by decide +kernel
theorem kc_Mo_counted : Cond.code y_Mo_counted b_Mo_counted 2 (some .int) ∈ gx_all := gx_in 1296 (by decide +kernel)
abbrev b_Mo_crash : ByteArray := prog_9_method_38_code
def y_Mo_crash : MethodName := ⟨"CommitLedgerModel", "crash", "()V"⟩
theorem d_Mo_crash_0 : decode b_Mo_crash 0 = .ok (.aload_n 0, 1) := by decide +kernel
theorem d_Mo_crash_1 : decode b_Mo_crash 1 = .ok (.invokevirtual 87, 3) := by decide +kernel
theorem d_Mo_crash_4 : decode b_Mo_crash 4 = .ok (.aload_n 0, 1) := by decide +kernel
theorem d_Mo_crash_5 : decode b_Mo_crash 5 = .ok (.iconst 0, 1) := by decide +kernel
theorem d_Mo_crash_6 : decode b_Mo_crash 6 = .ok (.iconst 0, 1) := by decide +kernel
theorem d_Mo_crash_7 : decode b_Mo_crash 7 = .ok (.invokevirtual 148, 3) := by decide +kernel
theorem d_Mo_crash_10 : decode b_Mo_crash 10 = .ok (.istore_n 1, 1) := by decide +kernel
theorem d_Mo_crash_11 : decode b_Mo_crash 11 = .ok (.return_, 1) := by decide +kernel
theorem kc_Mo_crash : Cond.code y_Mo_crash b_Mo_crash 2 none ∈ gx_all := gx_in 1243 (by decide +kernel)
abbrev b_Mo_done : ByteArray := prog_9_method_3_code
def y_Mo_done : MethodName := ⟨"CommitLedgerModel", "done", "(II)I"⟩
theorem d_Mo_done_0 : decode b_Mo_done 0 = .ok (.aload_n 0, 1) := by decide +kernel
theorem d_Mo_done_1 : decode b_Mo_done 1 = .ok (.iconst 0, 1) := by decide +kernel
theorem d_Mo_done_2 : decode b_Mo_done 2 = .ok (.putfield 80, 3) := by decide +kernel
theorem d_Mo_done_5 : decode b_Mo_done 5 = .ok (.iconst 0, 1) := by decide +kernel
theorem d_Mo_done_6 : decode b_Mo_done 6 = .ok (.istore_n 3, 1) := by decide +kernel
theorem d_Mo_done_7 : decode b_Mo_done 7 = .ok (.ldc 83, 2) := by decide +kernel
theorem d_Mo_done_9 : decode b_Mo_done 9 = .ok (.istore 4, 2) := by decide +kernel
theorem d_Mo_done_11 : decode b_Mo_done 11 = .ok (.iload 4, 2) := by decide +kernel
theorem d_Mo_done_13 : decode b_Mo_done 13 = .ok (.ifCond .le 47, 3) := by decide +kernel
theorem d_Mo_done_16 : decode b_Mo_done 16 = .ok (.iload_n 2, 1) := by decide +kernel
theorem d_Mo_done_17 : decode b_Mo_done 17 = .ok (.iload 4, 2) := by decide +kernel
theorem d_Mo_done_19 : decode b_Mo_done 19 = .ok (.idiv, 1) := by decide +kernel
theorem d_Mo_done_20 : decode b_Mo_done 20 = .ok (.bipush 10, 2) := by decide +kernel
theorem d_Mo_done_22 : decode b_Mo_done 22 = .ok (.irem, 1) := by decide +kernel
theorem d_Mo_done_23 : decode b_Mo_done 23 = .ok (.istore 5, 2) := by decide +kernel
theorem d_Mo_done_25 : decode b_Mo_done 25 = .ok (.iload 5, 2) := by decide +kernel
theorem d_Mo_done_27 : decode b_Mo_done 27 = .ok (.ifCond .ne 6, 3) := by decide +kernel
theorem d_Mo_done_30 : decode b_Mo_done 30 = .ok (.goto 20, 3) := by decide +kernel
theorem d_Mo_done_33 : decode b_Mo_done 33 = .ok (.iinc 3 1, 3) := by decide +kernel
theorem d_Mo_done_36 : decode b_Mo_done 36 = .ok (.iload 5, 2) := by decide +kernel
theorem d_Mo_done_38 : decode b_Mo_done 38 = .ok (.aload_n 0, 1) := by decide +kernel
theorem d_Mo_done_39 : decode b_Mo_done 39 = .ok (.getfield 84, 3) := by decide +kernel
theorem d_Mo_done_42 : decode b_Mo_done 42 = .ok (.if_icmp .ne 8, 3) := by decide +kernel
theorem d_Mo_done_45 : decode b_Mo_done 45 = .ok (.aload_n 0, 1) := by decide +kernel
theorem d_Mo_done_46 : decode b_Mo_done 46 = .ok (.iload_n 3, 1) := by decide +kernel
theorem d_Mo_done_47 : decode b_Mo_done 47 = .ok (.putfield 80, 3) := by decide +kernel
theorem d_Mo_done_50 : decode b_Mo_done 50 = .ok (.iload 4, 2) := by decide +kernel
theorem d_Mo_done_52 : decode b_Mo_done 52 = .ok (.bipush 10, 2) := by decide +kernel
theorem d_Mo_done_54 : decode b_Mo_done 54 = .ok (.idiv, 1) := by decide +kernel
theorem d_Mo_done_55 : decode b_Mo_done 55 = .ok (.istore 4, 2) := by decide +kernel
theorem d_Mo_done_57 : decode b_Mo_done 57 = .ok (.goto (-46), 3) := by decide +kernel
theorem d_Mo_done_60 : decode b_Mo_done 60 = .ok (.aload_n 0, 1) := by decide +kernel
theorem d_Mo_done_61 : decode b_Mo_done 61 = .ok (.iconst 0, 1) := by decide +kernel
theorem d_Mo_done_62 : decode b_Mo_done 62 = .ok (.putfield 84, 3) := by decide +kernel
theorem d_Mo_done_65 : decode b_Mo_done 65 = .ok (.aload_n 0, 1) := by decide +kernel
theorem d_Mo_done_66 : decode b_Mo_done 66 = .ok (.getfield 80, 3) := by decide +kernel
theorem d_Mo_done_69 : decode b_Mo_done 69 = .ok (.ifCond .le 7, 3) := by decide +kernel
theorem d_Mo_done_72 : decode b_Mo_done 72 = .ok (.iconst 0, 1) := by decide +kernel
theorem d_Mo_done_73 : decode b_Mo_done 73 = .ok (.goto 4, 3) := by decide +kernel
theorem d_Mo_done_76 : decode b_Mo_done 76 = .ok (.iload_n 1, 1) := by decide +kernel
theorem d_Mo_done_77 : decode b_Mo_done 77 = .ok (.ireturn, 1) := by decide +kernel
theorem kc_Mo_done : Cond.code y_Mo_done b_Mo_done 6 (some .int) ∈ gx_all := gx_in 1095 (by decide +kernel)
