/-! NAMES: the wrappers of the law (methods with handlers), their decode rows and words; which exceptions a clause takes. -/
abbrev b_Lw_add : ByteArray := method_5_code
def y_Lw_add : MethodName := ⟨"CommitLedgerLaw", "add", "(LCommitLedger;III[J)I"⟩
theorem d_Lw_add_0 : decode b_Lw_add 0 = .ok (.aload 4, 2) := by decide +kernel
theorem d_Lw_add_2 : decode b_Lw_add 2 = .ok (.iconst 0, 1) := by decide +kernel
theorem d_Lw_add_3 : decode b_Lw_add 3 = .ok (.aload_n 0, 1) := by decide +kernel
theorem d_Lw_add_4 : decode b_Lw_add 4 = .ok (.iload_n 1, 1) := by decide +kernel
theorem d_Lw_add_5 : decode b_Lw_add 5 = .ok (.iload_n 2, 1) := by decide +kernel
theorem d_Lw_add_6 : decode b_Lw_add 6 = .ok (.iload_n 3, 1) := by decide +kernel
theorem d_Lw_add_7 : decode b_Lw_add 7 = .ok (.invokevirtual 23, 3) := by decide +kernel
theorem d_Lw_add_10 : decode b_Lw_add 10 = .ok (.i2l, 1) := by decide +kernel
theorem d_Lw_add_11 : decode b_Lw_add 11 = .ok (.lastore, 1) := by decide +kernel
theorem d_Lw_add_12 : decode b_Lw_add 12 = .ok (.goto 19, 3) := by decide +kernel
theorem d_Lw_add_15 : decode b_Lw_add 15 = .ok (.astore 5, 2) := by decide +kernel
theorem d_Lw_add_17 : decode b_Lw_add 17 = .ok (.iconst 1, 1) := by decide +kernel
theorem d_Lw_add_18 : decode b_Lw_add 18 = .ok (.ireturn, 1) := by decide +kernel
theorem d_Lw_add_19 : decode b_Lw_add 19 = .ok (.astore 5, 2) := by decide +kernel
theorem d_Lw_add_21 : decode b_Lw_add 21 = .ok (.iconst 2, 1) := by decide +kernel
theorem d_Lw_add_22 : decode b_Lw_add 22 = .ok (.ireturn, 1) := by decide +kernel
theorem d_Lw_add_23 : decode b_Lw_add 23 = .ok (.astore 5, 2) := by decide +kernel
theorem d_Lw_add_25 : decode b_Lw_add 25 = .ok (.iconst 3, 1) := by decide +kernel
theorem d_Lw_add_26 : decode b_Lw_add 26 = .ok (.ireturn, 1) := by decide +kernel
theorem d_Lw_add_27 : decode b_Lw_add 27 = .ok (.astore 5, 2) := by decide +kernel
theorem d_Lw_add_29 : decode b_Lw_add 29 = .ok (.iconst 4, 1) := by decide +kernel
theorem d_Lw_add_30 : decode b_Lw_add 30 = .ok (.ireturn, 1) := by decide +kernel
theorem d_Lw_add_31 : decode b_Lw_add 31 = .ok (.iconst 0, 1) := by decide +kernel
theorem d_Lw_add_32 : decode b_Lw_add 32 = .ok (.ireturn, 1) := by decide +kernel
theorem kc_Lw_add : Cond.codeWith y_Lw_add b_Lw_add 6 (some .int) [(0, 12, 15, 13), (0, 12, 19, 15), (0, 12, 23, 27), (0, 12, 27, 29)] ∈ gx_all := gx_in 560 (by decide +kernel)
abbrev b_Lw_close : ByteArray := method_13_code
def y_Lw_close : MethodName := ⟨"CommitLedgerLaw", "close", "(LCommitLedger;[J)I"⟩
theorem d_Lw_close_0 : decode b_Lw_close 0 = .ok (.aload_n 1, 1) := by decide +kernel
theorem d_Lw_close_1 : decode b_Lw_close 1 = .ok (.iconst 0, 1) := by decide +kernel
theorem d_Lw_close_2 : decode b_Lw_close 2 = .ok (.aload_n 0, 1) := by decide +kernel
theorem d_Lw_close_3 : decode b_Lw_close 3 = .ok (.invokevirtual 56, 3) := by decide +kernel
theorem d_Lw_close_6 : decode b_Lw_close 6 = .ok (.i2l, 1) := by decide +kernel
theorem d_Lw_close_7 : decode b_Lw_close 7 = .ok (.lastore, 1) := by decide +kernel
theorem d_Lw_close_8 : decode b_Lw_close 8 = .ok (.goto 9, 3) := by decide +kernel
theorem d_Lw_close_11 : decode b_Lw_close 11 = .ok (.astore_n 2, 1) := by decide +kernel
theorem d_Lw_close_12 : decode b_Lw_close 12 = .ok (.iconst 1, 1) := by decide +kernel
theorem d_Lw_close_13 : decode b_Lw_close 13 = .ok (.ireturn, 1) := by decide +kernel
theorem d_Lw_close_14 : decode b_Lw_close 14 = .ok (.astore_n 2, 1) := by decide +kernel
theorem d_Lw_close_15 : decode b_Lw_close 15 = .ok (.iconst 2, 1) := by decide +kernel
theorem d_Lw_close_16 : decode b_Lw_close 16 = .ok (.ireturn, 1) := by decide +kernel
theorem d_Lw_close_17 : decode b_Lw_close 17 = .ok (.iconst 0, 1) := by decide +kernel
theorem d_Lw_close_18 : decode b_Lw_close 18 = .ok (.ireturn, 1) := by decide +kernel
theorem kc_Lw_close : Cond.codeWith y_Lw_close b_Lw_close 3 (some .int) [(0, 8, 11, 15), (0, 8, 14, 29)] ∈ gx_all := gx_in 812 (by decide +kernel)
abbrev b_Lw_commit : ByteArray := method_11_code
def y_Lw_commit : MethodName := ⟨"CommitLedgerLaw", "commit", "(LCommitLedger;[J)I"⟩
theorem d_Lw_commit_0 : decode b_Lw_commit 0 = .ok (.aload_n 1, 1) := by decide +kernel
theorem d_Lw_commit_1 : decode b_Lw_commit 1 = .ok (.iconst 0, 1) := by decide +kernel
theorem d_Lw_commit_2 : decode b_Lw_commit 2 = .ok (.aload_n 0, 1) := by decide +kernel
theorem d_Lw_commit_3 : decode b_Lw_commit 3 = .ok (.invokevirtual 50, 3) := by decide +kernel
theorem d_Lw_commit_6 : decode b_Lw_commit 6 = .ok (.i2l, 1) := by decide +kernel
theorem d_Lw_commit_7 : decode b_Lw_commit 7 = .ok (.lastore, 1) := by decide +kernel
theorem d_Lw_commit_8 : decode b_Lw_commit 8 = .ok (.goto 9, 3) := by decide +kernel
theorem d_Lw_commit_11 : decode b_Lw_commit 11 = .ok (.astore_n 2, 1) := by decide +kernel
theorem d_Lw_commit_12 : decode b_Lw_commit 12 = .ok (.iconst 1, 1) := by decide +kernel
theorem d_Lw_commit_13 : decode b_Lw_commit 13 = .ok (.ireturn, 1) := by decide +kernel
theorem d_Lw_commit_14 : decode b_Lw_commit 14 = .ok (.astore_n 2, 1) := by decide +kernel
theorem d_Lw_commit_15 : decode b_Lw_commit 15 = .ok (.iconst 2, 1) := by decide +kernel
theorem d_Lw_commit_16 : decode b_Lw_commit 16 = .ok (.ireturn, 1) := by decide +kernel
theorem d_Lw_commit_17 : decode b_Lw_commit 17 = .ok (.iconst 0, 1) := by decide +kernel
theorem d_Lw_commit_18 : decode b_Lw_commit 18 = .ok (.ireturn, 1) := by decide +kernel
theorem kc_Lw_commit : Cond.codeWith y_Lw_commit b_Lw_commit 3 (some .int) [(0, 8, 11, 15), (0, 8, 14, 29)] ∈ gx_all := gx_in 794 (by decide +kernel)
abbrev b_Lw_erase : ByteArray := method_6_code
def y_Lw_erase : MethodName := ⟨"CommitLedgerLaw", "erase", "(LCommitLedger;I[J)I"⟩
theorem d_Lw_erase_0 : decode b_Lw_erase 0 = .ok (.aload_n 2, 1) := by decide +kernel
theorem d_Lw_erase_1 : decode b_Lw_erase 1 = .ok (.iconst 0, 1) := by decide +kernel
theorem d_Lw_erase_2 : decode b_Lw_erase 2 = .ok (.aload_n 0, 1) := by decide +kernel
theorem d_Lw_erase_3 : decode b_Lw_erase 3 = .ok (.iload_n 1, 1) := by decide +kernel
theorem d_Lw_erase_4 : decode b_Lw_erase 4 = .ok (.invokevirtual 31, 3) := by decide +kernel
theorem d_Lw_erase_7 : decode b_Lw_erase 7 = .ok (.i2l, 1) := by decide +kernel
theorem d_Lw_erase_8 : decode b_Lw_erase 8 = .ok (.lastore, 1) := by decide +kernel
theorem d_Lw_erase_9 : decode b_Lw_erase 9 = .ok (.goto 6, 3) := by decide +kernel
theorem d_Lw_erase_12 : decode b_Lw_erase 12 = .ok (.astore_n 3, 1) := by decide +kernel
theorem d_Lw_erase_13 : decode b_Lw_erase 13 = .ok (.iconst 1, 1) := by decide +kernel
theorem d_Lw_erase_14 : decode b_Lw_erase 14 = .ok (.ireturn, 1) := by decide +kernel
theorem d_Lw_erase_15 : decode b_Lw_erase 15 = .ok (.iconst 0, 1) := by decide +kernel
theorem d_Lw_erase_16 : decode b_Lw_erase 16 = .ok (.ireturn, 1) := by decide +kernel
theorem kc_Lw_erase : Cond.codeWith y_Lw_erase b_Lw_erase 4 (some .int) [(0, 9, 12, 15)] ∈ gx_all := gx_in 673 (by decide +kernel)
abbrev b_Lw_finish : ByteArray := method_9_code
def y_Lw_finish : MethodName := ⟨"CommitLedgerLaw", "finish", "(LCommitLedger;IZ[J)I"⟩
theorem d_Lw_finish_0 : decode b_Lw_finish 0 = .ok (.aload_n 3, 1) := by decide +kernel
theorem d_Lw_finish_1 : decode b_Lw_finish 1 = .ok (.iconst 0, 1) := by decide +kernel
theorem d_Lw_finish_2 : decode b_Lw_finish 2 = .ok (.aload_n 0, 1) := by decide +kernel
theorem d_Lw_finish_3 : decode b_Lw_finish 3 = .ok (.iload_n 1, 1) := by decide +kernel
theorem d_Lw_finish_4 : decode b_Lw_finish 4 = .ok (.iload_n 2, 1) := by decide +kernel
theorem d_Lw_finish_5 : decode b_Lw_finish 5 = .ok (.invokevirtual 43, 3) := by decide +kernel
theorem d_Lw_finish_8 : decode b_Lw_finish 8 = .ok (.i2l, 1) := by decide +kernel
theorem d_Lw_finish_9 : decode b_Lw_finish 9 = .ok (.lastore, 1) := by decide +kernel
theorem d_Lw_finish_10 : decode b_Lw_finish 10 = .ok (.goto 11, 3) := by decide +kernel
theorem d_Lw_finish_13 : decode b_Lw_finish 13 = .ok (.astore 4, 2) := by decide +kernel
theorem d_Lw_finish_15 : decode b_Lw_finish 15 = .ok (.iconst 1, 1) := by decide +kernel
theorem d_Lw_finish_16 : decode b_Lw_finish 16 = .ok (.ireturn, 1) := by decide +kernel
theorem d_Lw_finish_17 : decode b_Lw_finish 17 = .ok (.astore 4, 2) := by decide +kernel
theorem d_Lw_finish_19 : decode b_Lw_finish 19 = .ok (.iconst 2, 1) := by decide +kernel
theorem d_Lw_finish_20 : decode b_Lw_finish 20 = .ok (.ireturn, 1) := by decide +kernel
theorem d_Lw_finish_21 : decode b_Lw_finish 21 = .ok (.iconst 0, 1) := by decide +kernel
theorem d_Lw_finish_22 : decode b_Lw_finish 22 = .ok (.ireturn, 1) := by decide +kernel
theorem kc_Lw_finish : Cond.codeWith y_Lw_finish b_Lw_finish 5 (some .int) [(0, 10, 13, 15), (0, 10, 17, 41)] ∈ gx_all := gx_in 736 (by decide +kernel)
abbrev b_Lw_flush : ByteArray := method_7_code
def y_Lw_flush : MethodName := ⟨"CommitLedgerLaw", "flush", "(LCommitLedger;[J)I"⟩
theorem d_Lw_flush_0 : decode b_Lw_flush 0 = .ok (.aload_n 1, 1) := by decide +kernel
theorem d_Lw_flush_1 : decode b_Lw_flush 1 = .ok (.iconst 0, 1) := by decide +kernel
theorem d_Lw_flush_2 : decode b_Lw_flush 2 = .ok (.aload_n 0, 1) := by decide +kernel
theorem d_Lw_flush_3 : decode b_Lw_flush 3 = .ok (.invokevirtual 34, 3) := by decide +kernel
theorem d_Lw_flush_6 : decode b_Lw_flush 6 = .ok (.i2l, 1) := by decide +kernel
theorem d_Lw_flush_7 : decode b_Lw_flush 7 = .ok (.lastore, 1) := by decide +kernel
theorem d_Lw_flush_8 : decode b_Lw_flush 8 = .ok (.goto 9, 3) := by decide +kernel
theorem d_Lw_flush_11 : decode b_Lw_flush 11 = .ok (.astore_n 2, 1) := by decide +kernel
theorem d_Lw_flush_12 : decode b_Lw_flush 12 = .ok (.iconst 1, 1) := by decide +kernel
theorem d_Lw_flush_13 : decode b_Lw_flush 13 = .ok (.ireturn, 1) := by decide +kernel
theorem d_Lw_flush_14 : decode b_Lw_flush 14 = .ok (.astore_n 2, 1) := by decide +kernel
theorem d_Lw_flush_15 : decode b_Lw_flush 15 = .ok (.iconst 2, 1) := by decide +kernel
theorem d_Lw_flush_16 : decode b_Lw_flush 16 = .ok (.ireturn, 1) := by decide +kernel
theorem d_Lw_flush_17 : decode b_Lw_flush 17 = .ok (.iconst 0, 1) := by decide +kernel
theorem d_Lw_flush_18 : decode b_Lw_flush 18 = .ok (.ireturn, 1) := by decide +kernel
theorem kc_Lw_flush : Cond.codeWith y_Lw_flush b_Lw_flush 3 (some .int) [(0, 8, 11, 15), (0, 8, 14, 29)] ∈ gx_all := gx_in 680 (by decide +kernel)
abbrev b_Lw_harm : ByteArray := method_15_code
def y_Lw_harm : MethodName := ⟨"CommitLedgerLaw", "harm", "(LCommitLedger;II)I"⟩
theorem d_Lw_harm_0 : decode b_Lw_harm 0 = .ok (.aload_n 0, 1) := by decide +kernel
theorem d_Lw_harm_1 : decode b_Lw_harm 1 = .ok (.iload_n 1, 1) := by decide +kernel
theorem d_Lw_harm_2 : decode b_Lw_harm 2 = .ok (.iload_n 2, 1) := by decide +kernel
theorem d_Lw_harm_3 : decode b_Lw_harm 3 = .ok (.invokevirtual 63, 3) := by decide +kernel
theorem d_Lw_harm_6 : decode b_Lw_harm 6 = .ok (.goto 12, 3) := by decide +kernel
theorem d_Lw_harm_9 : decode b_Lw_harm 9 = .ok (.astore_n 3, 1) := by decide +kernel
theorem d_Lw_harm_10 : decode b_Lw_harm 10 = .ok (.iconst 1, 1) := by decide +kernel
theorem d_Lw_harm_11 : decode b_Lw_harm 11 = .ok (.ireturn, 1) := by decide +kernel
theorem d_Lw_harm_12 : decode b_Lw_harm 12 = .ok (.astore_n 3, 1) := by decide +kernel
theorem d_Lw_harm_13 : decode b_Lw_harm 13 = .ok (.iconst 2, 1) := by decide +kernel
theorem d_Lw_harm_14 : decode b_Lw_harm 14 = .ok (.ireturn, 1) := by decide +kernel
theorem d_Lw_harm_15 : decode b_Lw_harm 15 = .ok (.astore_n 3, 1) := by decide +kernel
theorem d_Lw_harm_16 : decode b_Lw_harm 16 = .ok (.iconst 3, 1) := by decide +kernel
theorem d_Lw_harm_17 : decode b_Lw_harm 17 = .ok (.ireturn, 1) := by decide +kernel
theorem d_Lw_harm_18 : decode b_Lw_harm 18 = .ok (.iconst 0, 1) := by decide +kernel
theorem d_Lw_harm_19 : decode b_Lw_harm 19 = .ok (.ireturn, 1) := by decide +kernel
theorem kc_Lw_harm : Cond.codeWith y_Lw_harm b_Lw_harm 4 (some .int) [(0, 6, 9, 13), (0, 6, 12, 15), (0, 6, 15, 41)] ∈ gx_all := gx_in 827 (by decide +kernel)
abbrev b_Lw_limits : ByteArray := method_4_code
def y_Lw_limits : MethodName := ⟨"CommitLedgerLaw", "limits", "(LCommitLedger;II)I"⟩
theorem d_Lw_limits_0 : decode b_Lw_limits 0 = .ok (.aload_n 0, 1) := by decide +kernel
theorem d_Lw_limits_1 : decode b_Lw_limits 1 = .ok (.iload_n 1, 1) := by decide +kernel
theorem d_Lw_limits_2 : decode b_Lw_limits 2 = .ok (.iload_n 2, 1) := by decide +kernel
theorem d_Lw_limits_3 : decode b_Lw_limits 3 = .ok (.invokevirtual 19, 3) := by decide +kernel
theorem d_Lw_limits_6 : decode b_Lw_limits 6 = .ok (.goto 6, 3) := by decide +kernel
theorem d_Lw_limits_9 : decode b_Lw_limits 9 = .ok (.astore_n 3, 1) := by decide +kernel
theorem d_Lw_limits_10 : decode b_Lw_limits 10 = .ok (.iconst 1, 1) := by decide +kernel
theorem d_Lw_limits_11 : decode b_Lw_limits 11 = .ok (.ireturn, 1) := by decide +kernel
theorem d_Lw_limits_12 : decode b_Lw_limits 12 = .ok (.iconst 0, 1) := by decide +kernel
theorem d_Lw_limits_13 : decode b_Lw_limits 13 = .ok (.ireturn, 1) := by decide +kernel
theorem kc_Lw_limits : Cond.codeWith y_Lw_limits b_Lw_limits 4 (some .int) [(0, 6, 9, 13)] ∈ gx_all := gx_in 553 (by decide +kernel)
abbrev b_Lw_many : ByteArray := method_19_code
def y_Lw_many : MethodName := ⟨"CommitLedgerLaw", "many", "(LCommitLedger;II[J)I"⟩
theorem d_Lw_many_0 : decode b_Lw_many 0 = .ok (.aload_n 3, 1) := by decide +kernel
theorem d_Lw_many_1 : decode b_Lw_many 1 = .ok (.iconst 0, 1) := by decide +kernel
theorem d_Lw_many_2 : decode b_Lw_many 2 = .ok (.aload_n 0, 1) := by decide +kernel
theorem d_Lw_many_3 : decode b_Lw_many 3 = .ok (.iload_n 1, 1) := by decide +kernel
theorem d_Lw_many_4 : decode b_Lw_many 4 = .ok (.iload_n 2, 1) := by decide +kernel
theorem d_Lw_many_5 : decode b_Lw_many 5 = .ok (.invokevirtual 76, 3) := by decide +kernel
theorem d_Lw_many_8 : decode b_Lw_many 8 = .ok (.i2l, 1) := by decide +kernel
theorem d_Lw_many_9 : decode b_Lw_many 9 = .ok (.lastore, 1) := by decide +kernel
theorem d_Lw_many_10 : decode b_Lw_many 10 = .ok (.goto 7, 3) := by decide +kernel
theorem d_Lw_many_13 : decode b_Lw_many 13 = .ok (.astore 4, 2) := by decide +kernel
theorem d_Lw_many_15 : decode b_Lw_many 15 = .ok (.iconst 1, 1) := by decide +kernel
theorem d_Lw_many_16 : decode b_Lw_many 16 = .ok (.ireturn, 1) := by decide +kernel
theorem d_Lw_many_17 : decode b_Lw_many 17 = .ok (.iconst 0, 1) := by decide +kernel
theorem d_Lw_many_18 : decode b_Lw_many 18 = .ok (.ireturn, 1) := by decide +kernel
theorem kc_Lw_many : Cond.codeWith y_Lw_many b_Lw_many 5 (some .int) [(0, 10, 13, 41)] ∈ gx_all := gx_in 878 (by decide +kernel)
abbrev b_Lw_merge : ByteArray := method_8_code
def y_Lw_merge : MethodName := ⟨"CommitLedgerLaw", "merge", "(LCommitLedger;I[J)I"⟩
theorem d_Lw_merge_0 : decode b_Lw_merge 0 = .ok (.aload_n 2, 1) := by decide +kernel
theorem d_Lw_merge_1 : decode b_Lw_merge 1 = .ok (.iconst 0, 1) := by decide +kernel
theorem d_Lw_merge_2 : decode b_Lw_merge 2 = .ok (.aload_n 0, 1) := by decide +kernel
theorem d_Lw_merge_3 : decode b_Lw_merge 3 = .ok (.iload_n 1, 1) := by decide +kernel
theorem d_Lw_merge_4 : decode b_Lw_merge 4 = .ok (.invokevirtual 38, 3) := by decide +kernel
theorem d_Lw_merge_7 : decode b_Lw_merge 7 = .ok (.i2l, 1) := by decide +kernel
theorem d_Lw_merge_8 : decode b_Lw_merge 8 = .ok (.lastore, 1) := by decide +kernel
theorem d_Lw_merge_9 : decode b_Lw_merge 9 = .ok (.goto 18, 3) := by decide +kernel
theorem d_Lw_merge_12 : decode b_Lw_merge 12 = .ok (.astore_n 3, 1) := by decide +kernel
theorem d_Lw_merge_13 : decode b_Lw_merge 13 = .ok (.iconst 1, 1) := by decide +kernel
theorem d_Lw_merge_14 : decode b_Lw_merge 14 = .ok (.ireturn, 1) := by decide +kernel
theorem d_Lw_merge_15 : decode b_Lw_merge 15 = .ok (.astore_n 3, 1) := by decide +kernel
theorem d_Lw_merge_16 : decode b_Lw_merge 16 = .ok (.iconst 2, 1) := by decide +kernel
theorem d_Lw_merge_17 : decode b_Lw_merge 17 = .ok (.ireturn, 1) := by decide +kernel
theorem d_Lw_merge_18 : decode b_Lw_merge 18 = .ok (.astore_n 3, 1) := by decide +kernel
theorem d_Lw_merge_19 : decode b_Lw_merge 19 = .ok (.iconst 3, 1) := by decide +kernel
theorem d_Lw_merge_20 : decode b_Lw_merge 20 = .ok (.ireturn, 1) := by decide +kernel
theorem d_Lw_merge_21 : decode b_Lw_merge 21 = .ok (.astore_n 3, 1) := by decide +kernel
theorem d_Lw_merge_22 : decode b_Lw_merge 22 = .ok (.iconst 4, 1) := by decide +kernel
theorem d_Lw_merge_23 : decode b_Lw_merge 23 = .ok (.ireturn, 1) := by decide +kernel
theorem d_Lw_merge_24 : decode b_Lw_merge 24 = .ok (.astore_n 3, 1) := by decide +kernel
theorem d_Lw_merge_25 : decode b_Lw_merge 25 = .ok (.iconst 5, 1) := by decide +kernel
theorem d_Lw_merge_26 : decode b_Lw_merge 26 = .ok (.ireturn, 1) := by decide +kernel
theorem d_Lw_merge_27 : decode b_Lw_merge 27 = .ok (.iconst 0, 1) := by decide +kernel
theorem d_Lw_merge_28 : decode b_Lw_merge 28 = .ok (.ireturn, 1) := by decide +kernel
theorem kc_Lw_merge : Cond.codeWith y_Lw_merge b_Lw_merge 4 (some .int) [(0, 9, 12, 13), (0, 9, 15, 15), (0, 9, 18, 41), (0, 9, 21, 27), (0, 9, 24, 29)] ∈ gx_all := gx_in 687 (by decide +kernel)
abbrev b_Lw_open : ByteArray := method_3_code
def y_Lw_open : MethodName := ⟨"CommitLedgerLaw", "open", "(LCommitLedger;I[J)I"⟩
theorem d_Lw_open_0 : decode b_Lw_open 0 = .ok (.aload_n 2, 1) := by decide +kernel
theorem d_Lw_open_1 : decode b_Lw_open 1 = .ok (.iconst 0, 1) := by decide +kernel
theorem d_Lw_open_2 : decode b_Lw_open 2 = .ok (.aload_n 0, 1) := by decide +kernel
theorem d_Lw_open_3 : decode b_Lw_open 3 = .ok (.iload_n 1, 1) := by decide +kernel
theorem d_Lw_open_4 : decode b_Lw_open 4 = .ok (.invokevirtual 7, 3) := by decide +kernel
theorem d_Lw_open_7 : decode b_Lw_open 7 = .ok (.i2l, 1) := by decide +kernel
theorem d_Lw_open_8 : decode b_Lw_open 8 = .ok (.lastore, 1) := by decide +kernel
theorem d_Lw_open_9 : decode b_Lw_open 9 = .ok (.goto 12, 3) := by decide +kernel
theorem d_Lw_open_12 : decode b_Lw_open 12 = .ok (.astore_n 3, 1) := by decide +kernel
theorem d_Lw_open_13 : decode b_Lw_open 13 = .ok (.iconst 1, 1) := by decide +kernel
theorem d_Lw_open_14 : decode b_Lw_open 14 = .ok (.ireturn, 1) := by decide +kernel
theorem d_Lw_open_15 : decode b_Lw_open 15 = .ok (.astore_n 3, 1) := by decide +kernel
theorem d_Lw_open_16 : decode b_Lw_open 16 = .ok (.iconst 2, 1) := by decide +kernel
theorem d_Lw_open_17 : decode b_Lw_open 17 = .ok (.ireturn, 1) := by decide +kernel
theorem d_Lw_open_18 : decode b_Lw_open 18 = .ok (.astore_n 3, 1) := by decide +kernel
theorem d_Lw_open_19 : decode b_Lw_open 19 = .ok (.iconst 3, 1) := by decide +kernel
theorem d_Lw_open_20 : decode b_Lw_open 20 = .ok (.ireturn, 1) := by decide +kernel
theorem d_Lw_open_21 : decode b_Lw_open 21 = .ok (.iconst 0, 1) := by decide +kernel
theorem d_Lw_open_22 : decode b_Lw_open 22 = .ok (.ireturn, 1) := by decide +kernel
theorem kc_Lw_open : Cond.codeWith y_Lw_open b_Lw_open 4 (some .int) [(0, 9, 12, 13), (0, 9, 15, 15), (0, 9, 18, 17)] ∈ gx_all := gx_in 380 (by decide +kernel)
abbrev b_Lw_power : ByteArray := method_14_code
def y_Lw_power : MethodName := ⟨"CommitLedgerLaw", "power", "(LCommitLedger;I)I"⟩
theorem d_Lw_power_0 : decode b_Lw_power 0 = .ok (.aload_n 0, 1) := by decide +kernel
theorem d_Lw_power_1 : decode b_Lw_power 1 = .ok (.iload_n 1, 1) := by decide +kernel
theorem d_Lw_power_2 : decode b_Lw_power 2 = .ok (.invokevirtual 59, 3) := by decide +kernel
theorem d_Lw_power_5 : decode b_Lw_power 5 = .ok (.goto 6, 3) := by decide +kernel
theorem d_Lw_power_8 : decode b_Lw_power 8 = .ok (.astore_n 2, 1) := by decide +kernel
theorem d_Lw_power_9 : decode b_Lw_power 9 = .ok (.iconst 1, 1) := by decide +kernel
theorem d_Lw_power_10 : decode b_Lw_power 10 = .ok (.ireturn, 1) := by decide +kernel
theorem d_Lw_power_11 : decode b_Lw_power 11 = .ok (.iconst 0, 1) := by decide +kernel
theorem d_Lw_power_12 : decode b_Lw_power 12 = .ok (.ireturn, 1) := by decide +kernel
theorem kc_Lw_power : Cond.codeWith y_Lw_power b_Lw_power 3 (some .int) [(0, 5, 8, 13)] ∈ gx_all := gx_in 819 (by decide +kernel)
abbrev b_Lw_prepare : ByteArray := method_10_code
def y_Lw_prepare : MethodName := ⟨"CommitLedgerLaw", "prepare", "(LCommitLedger;[J)I"⟩
theorem d_Lw_prepare_0 : decode b_Lw_prepare 0 = .ok (.aload_n 1, 1) := by decide +kernel
theorem d_Lw_prepare_1 : decode b_Lw_prepare 1 = .ok (.iconst 0, 1) := by decide +kernel
theorem d_Lw_prepare_2 : decode b_Lw_prepare 2 = .ok (.aload_n 0, 1) := by decide +kernel
theorem d_Lw_prepare_3 : decode b_Lw_prepare 3 = .ok (.invokevirtual 47, 3) := by decide +kernel
theorem d_Lw_prepare_6 : decode b_Lw_prepare 6 = .ok (.i2l, 1) := by decide +kernel
theorem d_Lw_prepare_7 : decode b_Lw_prepare 7 = .ok (.lastore, 1) := by decide +kernel
theorem d_Lw_prepare_8 : decode b_Lw_prepare 8 = .ok (.goto 9, 3) := by decide +kernel
theorem d_Lw_prepare_11 : decode b_Lw_prepare 11 = .ok (.astore_n 2, 1) := by decide +kernel
theorem d_Lw_prepare_12 : decode b_Lw_prepare 12 = .ok (.iconst 1, 1) := by decide +kernel
theorem d_Lw_prepare_13 : decode b_Lw_prepare 13 = .ok (.ireturn, 1) := by decide +kernel
theorem d_Lw_prepare_14 : decode b_Lw_prepare 14 = .ok (.astore_n 2, 1) := by decide +kernel
theorem d_Lw_prepare_15 : decode b_Lw_prepare 15 = .ok (.iconst 2, 1) := by decide +kernel
theorem d_Lw_prepare_16 : decode b_Lw_prepare 16 = .ok (.ireturn, 1) := by decide +kernel
theorem d_Lw_prepare_17 : decode b_Lw_prepare 17 = .ok (.iconst 0, 1) := by decide +kernel
theorem d_Lw_prepare_18 : decode b_Lw_prepare 18 = .ok (.ireturn, 1) := by decide +kernel
theorem kc_Lw_prepare : Cond.codeWith y_Lw_prepare b_Lw_prepare 3 (some .int) [(0, 8, 11, 15), (0, 8, 14, 29)] ∈ gx_all := gx_in 757 (by decide +kernel)
abbrev b_Lw_reader : ByteArray := method_16_code
def y_Lw_reader : MethodName := ⟨"CommitLedgerLaw", "reader", "(LCommitLedger;I[J)I"⟩
theorem d_Lw_reader_0 : decode b_Lw_reader 0 = .ok (.aload_n 2, 1) := by decide +kernel
theorem d_Lw_reader_1 : decode b_Lw_reader 1 = .ok (.iconst 0, 1) := by decide +kernel
theorem d_Lw_reader_2 : decode b_Lw_reader 2 = .ok (.aload_n 0, 1) := by decide +kernel
theorem d_Lw_reader_3 : decode b_Lw_reader 3 = .ok (.iload_n 1, 1) := by decide +kernel
theorem d_Lw_reader_4 : decode b_Lw_reader 4 = .ok (.invokevirtual 66, 3) := by decide +kernel
theorem d_Lw_reader_7 : decode b_Lw_reader 7 = .ok (.i2l, 1) := by decide +kernel
theorem d_Lw_reader_8 : decode b_Lw_reader 8 = .ok (.lastore, 1) := by decide +kernel
theorem d_Lw_reader_9 : decode b_Lw_reader 9 = .ok (.goto 22, 3) := by decide +kernel
theorem d_Lw_reader_12 : decode b_Lw_reader 12 = .ok (.astore_n 3, 1) := by decide +kernel
theorem d_Lw_reader_13 : decode b_Lw_reader 13 = .ok (.iconst 1, 1) := by decide +kernel
theorem d_Lw_reader_14 : decode b_Lw_reader 14 = .ok (.ireturn, 1) := by decide +kernel
theorem d_Lw_reader_15 : decode b_Lw_reader 15 = .ok (.astore_n 3, 1) := by decide +kernel
theorem d_Lw_reader_16 : decode b_Lw_reader 16 = .ok (.iconst 2, 1) := by decide +kernel
theorem d_Lw_reader_17 : decode b_Lw_reader 17 = .ok (.ireturn, 1) := by decide +kernel
theorem d_Lw_reader_18 : decode b_Lw_reader 18 = .ok (.astore_n 3, 1) := by decide +kernel
theorem d_Lw_reader_19 : decode b_Lw_reader 19 = .ok (.iconst 3, 1) := by decide +kernel
theorem d_Lw_reader_20 : decode b_Lw_reader 20 = .ok (.ireturn, 1) := by decide +kernel
theorem d_Lw_reader_21 : decode b_Lw_reader 21 = .ok (.astore_n 3, 1) := by decide +kernel
theorem d_Lw_reader_22 : decode b_Lw_reader 22 = .ok (.iconst 4, 1) := by decide +kernel
theorem d_Lw_reader_23 : decode b_Lw_reader 23 = .ok (.ireturn, 1) := by decide +kernel
theorem d_Lw_reader_24 : decode b_Lw_reader 24 = .ok (.astore_n 3, 1) := by decide +kernel
theorem d_Lw_reader_25 : decode b_Lw_reader 25 = .ok (.iconst 5, 1) := by decide +kernel
theorem d_Lw_reader_26 : decode b_Lw_reader 26 = .ok (.ireturn, 1) := by decide +kernel
theorem d_Lw_reader_27 : decode b_Lw_reader 27 = .ok (.astore_n 3, 1) := by decide +kernel
theorem d_Lw_reader_28 : decode b_Lw_reader 28 = .ok (.bipush 6, 2) := by decide +kernel
theorem d_Lw_reader_30 : decode b_Lw_reader 30 = .ok (.ireturn, 1) := by decide +kernel
theorem d_Lw_reader_31 : decode b_Lw_reader 31 = .ok (.iconst 0, 1) := by decide +kernel
theorem d_Lw_reader_32 : decode b_Lw_reader 32 = .ok (.ireturn, 1) := by decide +kernel
theorem kc_Lw_reader : Cond.codeWith y_Lw_reader b_Lw_reader 4 (some .int) [(0, 9, 12, 13), (0, 9, 15, 15), (0, 9, 18, 41), (0, 9, 21, 17), (0, 9, 24, 27), (0, 9, 27, 29)] ∈ gx_all := gx_in 841 (by decide +kernel)
abbrev b_Lw_release : ByteArray := method_17_code
def y_Lw_release : MethodName := ⟨"CommitLedgerLaw", "release", "(LCommitLedger;I)I"⟩
theorem d_Lw_release_0 : decode b_Lw_release 0 = .ok (.aload_n 0, 1) := by decide +kernel
theorem d_Lw_release_1 : decode b_Lw_release 1 = .ok (.iload_n 1, 1) := by decide +kernel
theorem d_Lw_release_2 : decode b_Lw_release 2 = .ok (.invokevirtual 69, 3) := by decide +kernel
theorem d_Lw_release_5 : decode b_Lw_release 5 = .ok (.goto 6, 3) := by decide +kernel
theorem d_Lw_release_8 : decode b_Lw_release 8 = .ok (.astore_n 2, 1) := by decide +kernel
theorem d_Lw_release_9 : decode b_Lw_release 9 = .ok (.iconst 1, 1) := by decide +kernel
theorem d_Lw_release_10 : decode b_Lw_release 10 = .ok (.ireturn, 1) := by decide +kernel
theorem d_Lw_release_11 : decode b_Lw_release 11 = .ok (.iconst 0, 1) := by decide +kernel
theorem d_Lw_release_12 : decode b_Lw_release 12 = .ok (.ireturn, 1) := by decide +kernel
theorem kc_Lw_release : Cond.codeWith y_Lw_release b_Lw_release 3 (some .int) [(0, 5, 8, 41)] ∈ gx_all := gx_in 858 (by decide +kernel)
abbrev b_Lw_rollback : ByteArray := method_12_code
def y_Lw_rollback : MethodName := ⟨"CommitLedgerLaw", "rollback", "(LCommitLedger;)I"⟩
theorem d_Lw_rollback_0 : decode b_Lw_rollback 0 = .ok (.aload_n 0, 1) := by decide +kernel
theorem d_Lw_rollback_1 : decode b_Lw_rollback 1 = .ok (.invokevirtual 53, 3) := by decide +kernel
theorem d_Lw_rollback_4 : decode b_Lw_rollback 4 = .ok (.goto 6, 3) := by decide +kernel
theorem d_Lw_rollback_7 : decode b_Lw_rollback 7 = .ok (.astore_n 1, 1) := by decide +kernel
theorem d_Lw_rollback_8 : decode b_Lw_rollback 8 = .ok (.iconst 1, 1) := by decide +kernel
theorem d_Lw_rollback_9 : decode b_Lw_rollback 9 = .ok (.ireturn, 1) := by decide +kernel
theorem d_Lw_rollback_10 : decode b_Lw_rollback 10 = .ok (.iconst 0, 1) := by decide +kernel
theorem d_Lw_rollback_11 : decode b_Lw_rollback 11 = .ok (.ireturn, 1) := by decide +kernel
theorem kc_Lw_rollback : Cond.codeWith y_Lw_rollback b_Lw_rollback 2 (some .int) [(0, 4, 7, 15)] ∈ gx_all := gx_in 805 (by decide +kernel)
abbrev b_Lw_seen : ByteArray := method_21_code
def y_Lw_seen : MethodName := ⟨"CommitLedgerLaw", "seen", "(LCommitLedger;II[J)I"⟩
theorem d_Lw_seen_0 : decode b_Lw_seen 0 = .ok (.aload_n 3, 1) := by decide +kernel
theorem d_Lw_seen_1 : decode b_Lw_seen 1 = .ok (.iconst 0, 1) := by decide +kernel
theorem d_Lw_seen_2 : decode b_Lw_seen 2 = .ok (.aload_n 0, 1) := by decide +kernel
theorem d_Lw_seen_3 : decode b_Lw_seen 3 = .ok (.iload_n 1, 1) := by decide +kernel
theorem d_Lw_seen_4 : decode b_Lw_seen 4 = .ok (.iload_n 2, 1) := by decide +kernel
theorem d_Lw_seen_5 : decode b_Lw_seen 5 = .ok (.invokevirtual 82, 3) := by decide +kernel
theorem d_Lw_seen_8 : decode b_Lw_seen 8 = .ok (.i2l, 1) := by decide +kernel
theorem d_Lw_seen_9 : decode b_Lw_seen 9 = .ok (.lastore, 1) := by decide +kernel
theorem d_Lw_seen_10 : decode b_Lw_seen 10 = .ok (.goto 11, 3) := by decide +kernel
theorem d_Lw_seen_13 : decode b_Lw_seen 13 = .ok (.astore 4, 2) := by decide +kernel
theorem d_Lw_seen_15 : decode b_Lw_seen 15 = .ok (.iconst 1, 1) := by decide +kernel
theorem d_Lw_seen_16 : decode b_Lw_seen 16 = .ok (.ireturn, 1) := by decide +kernel
theorem d_Lw_seen_17 : decode b_Lw_seen 17 = .ok (.astore 4, 2) := by decide +kernel
theorem d_Lw_seen_19 : decode b_Lw_seen 19 = .ok (.iconst 2, 1) := by decide +kernel
theorem d_Lw_seen_20 : decode b_Lw_seen 20 = .ok (.ireturn, 1) := by decide +kernel
theorem d_Lw_seen_21 : decode b_Lw_seen 21 = .ok (.iconst 0, 1) := by decide +kernel
theorem d_Lw_seen_22 : decode b_Lw_seen 22 = .ok (.ireturn, 1) := by decide +kernel
theorem kc_Lw_seen : Cond.codeWith y_Lw_seen b_Lw_seen 5 (some .int) [(0, 10, 13, 13), (0, 10, 17, 41)] ∈ gx_all := gx_in 893 (by decide +kernel)
abbrev b_Lw_segment : ByteArray := method_22_code
def y_Lw_segment : MethodName := ⟨"CommitLedgerLaw", "segment", "(LCommitLedger;II[J)I"⟩
theorem d_Lw_segment_0 : decode b_Lw_segment 0 = .ok (.aload_n 3, 1) := by decide +kernel
theorem d_Lw_segment_1 : decode b_Lw_segment 1 = .ok (.iconst 0, 1) := by decide +kernel
theorem d_Lw_segment_2 : decode b_Lw_segment 2 = .ok (.aload_n 0, 1) := by decide +kernel
theorem d_Lw_segment_3 : decode b_Lw_segment 3 = .ok (.iload_n 1, 1) := by decide +kernel
theorem d_Lw_segment_4 : decode b_Lw_segment 4 = .ok (.iload_n 2, 1) := by decide +kernel
theorem d_Lw_segment_5 : decode b_Lw_segment 5 = .ok (.invokevirtual 85, 3) := by decide +kernel
theorem d_Lw_segment_8 : decode b_Lw_segment 8 = .ok (.i2l, 1) := by decide +kernel
theorem d_Lw_segment_9 : decode b_Lw_segment 9 = .ok (.lastore, 1) := by decide +kernel
theorem d_Lw_segment_10 : decode b_Lw_segment 10 = .ok (.goto 15, 3) := by decide +kernel
theorem d_Lw_segment_13 : decode b_Lw_segment 13 = .ok (.astore 4, 2) := by decide +kernel
theorem d_Lw_segment_15 : decode b_Lw_segment 15 = .ok (.iconst 1, 1) := by decide +kernel
theorem d_Lw_segment_16 : decode b_Lw_segment 16 = .ok (.ireturn, 1) := by decide +kernel
theorem d_Lw_segment_17 : decode b_Lw_segment 17 = .ok (.astore 4, 2) := by decide +kernel
theorem d_Lw_segment_19 : decode b_Lw_segment 19 = .ok (.iconst 2, 1) := by decide +kernel
theorem d_Lw_segment_20 : decode b_Lw_segment 20 = .ok (.ireturn, 1) := by decide +kernel
theorem d_Lw_segment_21 : decode b_Lw_segment 21 = .ok (.astore 4, 2) := by decide +kernel
theorem d_Lw_segment_23 : decode b_Lw_segment 23 = .ok (.iconst 3, 1) := by decide +kernel
theorem d_Lw_segment_24 : decode b_Lw_segment 24 = .ok (.ireturn, 1) := by decide +kernel
theorem d_Lw_segment_25 : decode b_Lw_segment 25 = .ok (.iconst 0, 1) := by decide +kernel
theorem d_Lw_segment_26 : decode b_Lw_segment 26 = .ok (.ireturn, 1) := by decide +kernel
theorem kc_Lw_segment : Cond.codeWith y_Lw_segment b_Lw_segment 5 (some .int) [(0, 10, 13, 13), (0, 10, 17, 15), (0, 10, 21, 41)] ∈ gx_all := gx_in 900 (by decide +kernel)
abbrev b_Lw_serial : ByteArray := method_20_code
def y_Lw_serial : MethodName := ⟨"CommitLedgerLaw", "serial", "(LCommitLedger;II[J)I"⟩
theorem d_Lw_serial_0 : decode b_Lw_serial 0 = .ok (.aload_n 3, 1) := by decide +kernel
theorem d_Lw_serial_1 : decode b_Lw_serial 1 = .ok (.iconst 0, 1) := by decide +kernel
theorem d_Lw_serial_2 : decode b_Lw_serial 2 = .ok (.aload_n 0, 1) := by decide +kernel
theorem d_Lw_serial_3 : decode b_Lw_serial 3 = .ok (.iload_n 1, 1) := by decide +kernel
theorem d_Lw_serial_4 : decode b_Lw_serial 4 = .ok (.iload_n 2, 1) := by decide +kernel
theorem d_Lw_serial_5 : decode b_Lw_serial 5 = .ok (.invokevirtual 79, 3) := by decide +kernel
theorem d_Lw_serial_8 : decode b_Lw_serial 8 = .ok (.i2l, 1) := by decide +kernel
theorem d_Lw_serial_9 : decode b_Lw_serial 9 = .ok (.lastore, 1) := by decide +kernel
theorem d_Lw_serial_10 : decode b_Lw_serial 10 = .ok (.goto 7, 3) := by decide +kernel
theorem d_Lw_serial_13 : decode b_Lw_serial 13 = .ok (.astore 4, 2) := by decide +kernel
theorem d_Lw_serial_15 : decode b_Lw_serial 15 = .ok (.iconst 1, 1) := by decide +kernel
theorem d_Lw_serial_16 : decode b_Lw_serial 16 = .ok (.ireturn, 1) := by decide +kernel
theorem d_Lw_serial_17 : decode b_Lw_serial 17 = .ok (.iconst 0, 1) := by decide +kernel
theorem d_Lw_serial_18 : decode b_Lw_serial 18 = .ok (.ireturn, 1) := by decide +kernel
theorem kc_Lw_serial : Cond.codeWith y_Lw_serial b_Lw_serial 5 (some .int) [(0, 10, 13, 41)] ∈ gx_all := gx_in 885 (by decide +kernel)
abbrev b_Lw_value : ByteArray := method_18_code
def y_Lw_value : MethodName := ⟨"CommitLedgerLaw", "value", "(LCommitLedger;II[J)I"⟩
theorem d_Lw_value_0 : decode b_Lw_value 0 = .ok (.aload_n 3, 1) := by decide +kernel
theorem d_Lw_value_1 : decode b_Lw_value 1 = .ok (.iconst 0, 1) := by decide +kernel
theorem d_Lw_value_2 : decode b_Lw_value 2 = .ok (.aload_n 0, 1) := by decide +kernel
theorem d_Lw_value_3 : decode b_Lw_value 3 = .ok (.iload_n 1, 1) := by decide +kernel
theorem d_Lw_value_4 : decode b_Lw_value 4 = .ok (.iload_n 2, 1) := by decide +kernel
theorem d_Lw_value_5 : decode b_Lw_value 5 = .ok (.invokevirtual 72, 3) := by decide +kernel
theorem d_Lw_value_8 : decode b_Lw_value 8 = .ok (.i2l, 1) := by decide +kernel
theorem d_Lw_value_9 : decode b_Lw_value 9 = .ok (.lastore, 1) := by decide +kernel
theorem d_Lw_value_10 : decode b_Lw_value 10 = .ok (.goto 7, 3) := by decide +kernel
theorem d_Lw_value_13 : decode b_Lw_value 13 = .ok (.astore 4, 2) := by decide +kernel
theorem d_Lw_value_15 : decode b_Lw_value 15 = .ok (.iconst 1, 1) := by decide +kernel
theorem d_Lw_value_16 : decode b_Lw_value 16 = .ok (.ireturn, 1) := by decide +kernel
theorem d_Lw_value_17 : decode b_Lw_value 17 = .ok (.iconst 0, 1) := by decide +kernel
theorem d_Lw_value_18 : decode b_Lw_value 18 = .ok (.ireturn, 1) := by decide +kernel
theorem kc_Lw_value : Cond.codeWith y_Lw_value b_Lw_value 5 (some .int) [(0, 10, 13, 41)] ∈ gx_all := gx_in 870 (by decide +kernel)
theorem kS_Lw_open : Cond.static y_Lw_open ∈ gx_all := gx_in 379 (by decide +kernel)
theorem kB_IllegalArgumentException : Cond.castable "java/lang/IllegalArgumentException" "java/lang/IllegalArgumentException" ∈ gx_all := gx_in 393 (by decide +kernel)
theorem kB_IllegalStateException : Cond.castable "java/lang/IllegalStateException" "java/lang/IllegalStateException" ∈ gx_all := gx_in 464 (by decide +kernel)
theorem kB_UnsupportedOperationException : Cond.castable "java/lang/UnsupportedOperationException" "java/lang/UnsupportedOperationException" ∈ gx_all := gx_in 488 (by decide +kernel)
theorem kS_Lw_limits : Cond.static y_Lw_limits ∈ gx_all := gx_in 552 (by decide +kernel)
theorem kS_Lw_add : Cond.static y_Lw_add ∈ gx_all := gx_in 559 (by decide +kernel)
theorem kB_IndexOutOfBoundsException : Cond.castable "java/lang/IndexOutOfBoundsException" "java/lang/IndexOutOfBoundsException" ∈ gx_all := gx_in 574 (by decide +kernel)
theorem kB_ArithmeticException : Cond.castable "java/lang/ArithmeticException" "java/lang/ArithmeticException" ∈ gx_all := gx_in 606 (by decide +kernel)
theorem kS_Lw_erase : Cond.static y_Lw_erase ∈ gx_all := gx_in 672 (by decide +kernel)
theorem kS_Lw_flush : Cond.static y_Lw_flush ∈ gx_all := gx_in 679 (by decide +kernel)
theorem kS_Lw_merge : Cond.static y_Lw_merge ∈ gx_all := gx_in 686 (by decide +kernel)
theorem kB_NoSuchElementException : Cond.castable "java/util/NoSuchElementException" "java/util/NoSuchElementException" ∈ gx_all := gx_in 700 (by decide +kernel)
theorem kS_Lw_finish : Cond.static y_Lw_finish ∈ gx_all := gx_in 735 (by decide +kernel)
theorem kS_Lw_prepare : Cond.static y_Lw_prepare ∈ gx_all := gx_in 756 (by decide +kernel)
theorem kS_Lw_commit : Cond.static y_Lw_commit ∈ gx_all := gx_in 793 (by decide +kernel)
theorem kS_Lw_rollback : Cond.static y_Lw_rollback ∈ gx_all := gx_in 804 (by decide +kernel)
theorem kS_Lw_close : Cond.static y_Lw_close ∈ gx_all := gx_in 811 (by decide +kernel)
theorem kS_Lw_power : Cond.static y_Lw_power ∈ gx_all := gx_in 818 (by decide +kernel)
theorem kS_Lw_harm : Cond.static y_Lw_harm ∈ gx_all := gx_in 826 (by decide +kernel)
theorem kS_Lw_reader : Cond.static y_Lw_reader ∈ gx_all := gx_in 840 (by decide +kernel)
theorem kS_Lw_release : Cond.static y_Lw_release ∈ gx_all := gx_in 857 (by decide +kernel)
theorem kS_Lw_value : Cond.static y_Lw_value ∈ gx_all := gx_in 869 (by decide +kernel)
theorem kS_Lw_many : Cond.static y_Lw_many ∈ gx_all := gx_in 877 (by decide +kernel)
theorem kS_Lw_serial : Cond.static y_Lw_serial ∈ gx_all := gx_in 884 (by decide +kernel)
theorem kS_Lw_seen : Cond.static y_Lw_seen ∈ gx_all := gx_in 892 (by decide +kernel)
theorem kS_Lw_segment : Cond.static y_Lw_segment ∈ gx_all := gx_in 899 (by decide +kernel)
theorem kB_Fi : Cond.castable "CommitLedger$LedgerFile" "CommitLedger$LedgerFile" ∈ gx_all := gx_in 1307 (by decide +kernel)
theorem kZ_IllegalStateException_IllegalArgumentException : Cond.not (.castable "java/lang/IllegalStateException" "java/lang/IllegalArgumentException") ∈ gx_all := gx_inx 12 (by decide +kernel)
theorem kZ_UnsupportedOperationException_IllegalArgumentException : Cond.not (.castable "java/lang/UnsupportedOperationException" "java/lang/IllegalArgumentException") ∈ gx_all := gx_inx 13 (by decide +kernel)
theorem kZ_IndexOutOfBoundsException_IllegalArgumentException : Cond.not (.castable "java/lang/IndexOutOfBoundsException" "java/lang/IllegalArgumentException") ∈ gx_all := gx_inx 14 (by decide +kernel)
theorem kZ_ArithmeticException_IllegalArgumentException : Cond.not (.castable "java/lang/ArithmeticException" "java/lang/IllegalArgumentException") ∈ gx_all := gx_inx 15 (by decide +kernel)
theorem kZ_NoSuchElementException_IllegalArgumentException : Cond.not (.castable "java/util/NoSuchElementException" "java/lang/IllegalArgumentException") ∈ gx_all := gx_inx 17 (by decide +kernel)
theorem kZ_IllegalArgumentException_IllegalStateException : Cond.not (.castable "java/lang/IllegalArgumentException" "java/lang/IllegalStateException") ∈ gx_all := gx_inx 27 (by decide +kernel)
theorem kZ_UnsupportedOperationException_IllegalStateException : Cond.not (.castable "java/lang/UnsupportedOperationException" "java/lang/IllegalStateException") ∈ gx_all := gx_inx 28 (by decide +kernel)
theorem kZ_IndexOutOfBoundsException_IllegalStateException : Cond.not (.castable "java/lang/IndexOutOfBoundsException" "java/lang/IllegalStateException") ∈ gx_all := gx_inx 29 (by decide +kernel)
theorem kZ_ArithmeticException_IllegalStateException : Cond.not (.castable "java/lang/ArithmeticException" "java/lang/IllegalStateException") ∈ gx_all := gx_inx 30 (by decide +kernel)
theorem kZ_NoSuchElementException_IllegalStateException : Cond.not (.castable "java/util/NoSuchElementException" "java/lang/IllegalStateException") ∈ gx_all := gx_inx 32 (by decide +kernel)
theorem kZ_IllegalArgumentException_UnsupportedOperationException : Cond.not (.castable "java/lang/IllegalArgumentException" "java/lang/UnsupportedOperationException") ∈ gx_all := gx_inx 42 (by decide +kernel)
theorem kZ_IllegalStateException_UnsupportedOperationException : Cond.not (.castable "java/lang/IllegalStateException" "java/lang/UnsupportedOperationException") ∈ gx_all := gx_inx 43 (by decide +kernel)
theorem kZ_IndexOutOfBoundsException_UnsupportedOperationException : Cond.not (.castable "java/lang/IndexOutOfBoundsException" "java/lang/UnsupportedOperationException") ∈ gx_all := gx_inx 44 (by decide +kernel)
theorem kZ_ArithmeticException_UnsupportedOperationException : Cond.not (.castable "java/lang/ArithmeticException" "java/lang/UnsupportedOperationException") ∈ gx_all := gx_inx 45 (by decide +kernel)
theorem kZ_NoSuchElementException_UnsupportedOperationException : Cond.not (.castable "java/util/NoSuchElementException" "java/lang/UnsupportedOperationException") ∈ gx_all := gx_inx 47 (by decide +kernel)
theorem kZ_IllegalArgumentException_IndexOutOfBoundsException : Cond.not (.castable "java/lang/IllegalArgumentException" "java/lang/IndexOutOfBoundsException") ∈ gx_all := gx_inx 57 (by decide +kernel)
theorem kZ_IllegalStateException_IndexOutOfBoundsException : Cond.not (.castable "java/lang/IllegalStateException" "java/lang/IndexOutOfBoundsException") ∈ gx_all := gx_inx 58 (by decide +kernel)
theorem kZ_UnsupportedOperationException_IndexOutOfBoundsException : Cond.not (.castable "java/lang/UnsupportedOperationException" "java/lang/IndexOutOfBoundsException") ∈ gx_all := gx_inx 59 (by decide +kernel)
theorem kZ_ArithmeticException_IndexOutOfBoundsException : Cond.not (.castable "java/lang/ArithmeticException" "java/lang/IndexOutOfBoundsException") ∈ gx_all := gx_inx 60 (by decide +kernel)
theorem kZ_NoSuchElementException_IndexOutOfBoundsException : Cond.not (.castable "java/util/NoSuchElementException" "java/lang/IndexOutOfBoundsException") ∈ gx_all := gx_inx 62 (by decide +kernel)
theorem kZ_IllegalArgumentException_ArithmeticException : Cond.not (.castable "java/lang/IllegalArgumentException" "java/lang/ArithmeticException") ∈ gx_all := gx_inx 72 (by decide +kernel)
theorem kZ_IllegalStateException_ArithmeticException : Cond.not (.castable "java/lang/IllegalStateException" "java/lang/ArithmeticException") ∈ gx_all := gx_inx 73 (by decide +kernel)
theorem kZ_UnsupportedOperationException_ArithmeticException : Cond.not (.castable "java/lang/UnsupportedOperationException" "java/lang/ArithmeticException") ∈ gx_all := gx_inx 74 (by decide +kernel)
theorem kZ_IndexOutOfBoundsException_ArithmeticException : Cond.not (.castable "java/lang/IndexOutOfBoundsException" "java/lang/ArithmeticException") ∈ gx_all := gx_inx 75 (by decide +kernel)
theorem kZ_NoSuchElementException_ArithmeticException : Cond.not (.castable "java/util/NoSuchElementException" "java/lang/ArithmeticException") ∈ gx_all := gx_inx 77 (by decide +kernel)
theorem kZ_IllegalArgumentException_NoSuchElementException : Cond.not (.castable "java/lang/IllegalArgumentException" "java/util/NoSuchElementException") ∈ gx_all := gx_inx 87 (by decide +kernel)
theorem kZ_IllegalStateException_NoSuchElementException : Cond.not (.castable "java/lang/IllegalStateException" "java/util/NoSuchElementException") ∈ gx_all := gx_inx 88 (by decide +kernel)
theorem kZ_UnsupportedOperationException_NoSuchElementException : Cond.not (.castable "java/lang/UnsupportedOperationException" "java/util/NoSuchElementException") ∈ gx_all := gx_inx 89 (by decide +kernel)
theorem kZ_IndexOutOfBoundsException_NoSuchElementException : Cond.not (.castable "java/lang/IndexOutOfBoundsException" "java/util/NoSuchElementException") ∈ gx_all := gx_inx 90 (by decide +kernel)
theorem kZ_ArithmeticException_NoSuchElementException : Cond.not (.castable "java/lang/ArithmeticException" "java/util/NoSuchElementException") ∈ gx_all := gx_inx 91 (by decide +kernel)
section GXLA
variable {p : Program} {l : Launch} {e : Env} {R : Room} {s : State} {m : MethodId} {args : Array Value} {below : List Frame} {meth : Method} {c : Code} {H : Heap} {locs : List Loc} {cells slots : Nat} {Q : State → Prop} {cc : ByteArray}
variable {D : va_G} {cl : List vw_C} {tys : List (ClassId × FieldType)} {ws : va_W} {A : Nat → Prop} {pc : Nat} {ls : Array Slot} {rest : List Value} {H0 : Heap} {a : Nat}
theorem gx_last (hx : p.tables.exec = Jvm.exec) (hb : c.code = cc) (hK : va_K D cl tys s) (hP : va_P D cl ws H) (hD : va_D A ws) (hS : va_S A H0 H locs) (q0 t0 : Nat) {cA : ClassId} {n j : Nat} {f : Nat → Int64} (ha : ws[q0]? = some (a, .inl (cA, n, .inr (.inl f)))) (ht : tys[t0]? = some (cA, .long)) {i : Int32} {x : Int64} (hin : vp_in i n) (hi : i.toNatClampNeg = j) (d : decode cc pc = .ok (.lastore, 1))
    (kk : ∀ (H1 : Heap) (locs1 : List Loc), va_P D cl (ws.set q0 (a, .inl (cA, n, .inr (.inl (vp_updL f j x))))) H1 → va_D A (ws.set q0 (a, .inl (cA, n, .inr (.inl (vp_updL f j x))))) → va_S A H0 H1 locs1 → W p l e R s m args below meth c H1 locs1 cells slots Q (F0 m (pc + 1) ls rest)) : W p l e R s m args below meth c H locs cells slots Q (F0 m pc ls (.long x :: .int i :: .ref a :: rest)) := by
  subst hi
  exact va_last hx hb hK hP hD hS q0 t0 ha ht hin d kk
end GXLA
