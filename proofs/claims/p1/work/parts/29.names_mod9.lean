/-! NAMES: methods and their decode rows, printed by an own text program out of the Statement. -/
abbrev b_Ve_liveIn : ByteArray := prog_10_method_4_code
def y_Ve_liveIn : MethodName := ⟨"CommitLedgerModel$Version", "liveIn", "(I)I"⟩
theorem d_Ve_liveIn_0 : decode b_Ve_liveIn 0 = .ok (.iconst 0, 1) := by decide +kernel
theorem d_Ve_liveIn_1 : decode b_Ve_liveIn 1 = .ok (.istore_n 2, 1) := by decide +kernel
theorem d_Ve_liveIn_2 : decode b_Ve_liveIn 2 = .ok (.aload_n 0, 1) := by decide +kernel
theorem d_Ve_liveIn_3 : decode b_Ve_liveIn 3 = .ok (.getfield 18, 3) := by decide +kernel
theorem d_Ve_liveIn_6 : decode b_Ve_liveIn 6 = .ok (.iload_n 1, 1) := by decide +kernel
theorem d_Ve_liveIn_7 : decode b_Ve_liveIn 7 = .ok (.iaload, 1) := by decide +kernel
theorem d_Ve_liveIn_8 : decode b_Ve_liveIn 8 = .ok (.istore_n 3, 1) := by decide +kernel
theorem d_Ve_liveIn_9 : decode b_Ve_liveIn 9 = .ok (.iload_n 3, 1) := by decide +kernel
theorem d_Ve_liveIn_10 : decode b_Ve_liveIn 10 = .ok (.aload_n 0, 1) := by decide +kernel
theorem d_Ve_liveIn_11 : decode b_Ve_liveIn 11 = .ok (.getfield 18, 3) := by decide +kernel
theorem d_Ve_liveIn_14 : decode b_Ve_liveIn 14 = .ok (.iload_n 1, 1) := by decide +kernel
theorem d_Ve_liveIn_15 : decode b_Ve_liveIn 15 = .ok (.iconst 1, 1) := by decide +kernel
theorem d_Ve_liveIn_16 : decode b_Ve_liveIn 16 = .ok (.iadd, 1) := by decide +kernel
theorem d_Ve_liveIn_17 : decode b_Ve_liveIn 17 = .ok (.iaload, 1) := by decide +kernel
theorem d_Ve_liveIn_18 : decode b_Ve_liveIn 18 = .ok (.if_icmp .ge 21, 3) := by decide +kernel
theorem d_Ve_liveIn_21 : decode b_Ve_liveIn 21 = .ok (.aload_n 0, 1) := by decide +kernel
theorem d_Ve_liveIn_22 : decode b_Ve_liveIn 22 = .ok (.getfield 27, 3) := by decide +kernel
theorem d_Ve_liveIn_25 : decode b_Ve_liveIn 25 = .ok (.iload_n 3, 1) := by decide +kernel
theorem d_Ve_liveIn_26 : decode b_Ve_liveIn 26 = .ok (.baload, 1) := by decide +kernel
theorem d_Ve_liveIn_27 : decode b_Ve_liveIn 27 = .ok (.ifCond .eq 6, 3) := by decide +kernel
theorem d_Ve_liveIn_30 : decode b_Ve_liveIn 30 = .ok (.iinc 2 1, 3) := by decide +kernel
theorem d_Ve_liveIn_33 : decode b_Ve_liveIn 33 = .ok (.iinc 3 1, 3) := by decide +kernel
theorem d_Ve_liveIn_36 : decode b_Ve_liveIn 36 = .ok (.goto (-27), 3) := by decide +kernel
theorem d_Ve_liveIn_39 : decode b_Ve_liveIn 39 = .ok (.iload_n 2, 1) := by decide +kernel
theorem d_Ve_liveIn_40 : decode b_Ve_liveIn 40 = .ok (.ireturn, 1) := by decide +kernel
theorem kc_Ve_liveIn : Cond.code y_Ve_liveIn b_Ve_liveIn 4 (some .int) ∈ gx_all := gx_in 1112 (by decide +kernel)
abbrev b_Ve_tidy : ByteArray := prog_10_method_6_code
def y_Ve_tidy : MethodName := ⟨"CommitLedgerModel$Version", "tidy", "()V"⟩
theorem d_Ve_tidy_0 : decode b_Ve_tidy 0 = .ok (.aload_n 0, 1) := by decide +kernel
theorem d_Ve_tidy_1 : decode b_Ve_tidy 1 = .ok (.getfield 34, 3) := by decide +kernel
theorem d_Ve_tidy_4 : decode b_Ve_tidy 4 = .ok (.iconst 1, 1) := by decide +kernel
theorem d_Ve_tidy_5 : decode b_Ve_tidy 5 = .ok (.isub, 1) := by decide +kernel
theorem d_Ve_tidy_6 : decode b_Ve_tidy 6 = .ok (.istore_n 1, 1) := by decide +kernel
theorem d_Ve_tidy_7 : decode b_Ve_tidy 7 = .ok (.iload_n 1, 1) := by decide +kernel
theorem d_Ve_tidy_8 : decode b_Ve_tidy 8 = .ok (.ifCond .lt 31, 3) := by decide +kernel
theorem d_Ve_tidy_11 : decode b_Ve_tidy 11 = .ok (.aload_n 0, 1) := by decide +kernel
theorem d_Ve_tidy_12 : decode b_Ve_tidy 12 = .ok (.getfield 21, 3) := by decide +kernel
theorem d_Ve_tidy_15 : decode b_Ve_tidy 15 = .ok (.iload_n 1, 1) := by decide +kernel
theorem d_Ve_tidy_16 : decode b_Ve_tidy 16 = .ok (.iaload, 1) := by decide +kernel
theorem d_Ve_tidy_17 : decode b_Ve_tidy 17 = .ok (.ifCond .ne 16, 3) := by decide +kernel
theorem d_Ve_tidy_20 : decode b_Ve_tidy 20 = .ok (.aload_n 0, 1) := by decide +kernel
theorem d_Ve_tidy_21 : decode b_Ve_tidy 21 = .ok (.iload_n 1, 1) := by decide +kernel
theorem d_Ve_tidy_22 : decode b_Ve_tidy 22 = .ok (.invokevirtual 48, 3) := by decide +kernel
theorem d_Ve_tidy_25 : decode b_Ve_tidy 25 = .ok (.ifCond .ne 8, 3) := by decide +kernel
theorem d_Ve_tidy_28 : decode b_Ve_tidy 28 = .ok (.aload_n 0, 1) := by decide +kernel
theorem d_Ve_tidy_29 : decode b_Ve_tidy 29 = .ok (.iload_n 1, 1) := by decide +kernel
theorem d_Ve_tidy_30 : decode b_Ve_tidy 30 = .ok (.invokevirtual 52, 3) := by decide +kernel
theorem d_Ve_tidy_33 : decode b_Ve_tidy 33 = .ok (.iinc 1 (-1), 3) := by decide +kernel
theorem d_Ve_tidy_36 : decode b_Ve_tidy 36 = .ok (.goto (-29), 3) := by decide +kernel
theorem d_Ve_tidy_39 : decode b_Ve_tidy 39 = .ok (.return_, 1) := by decide +kernel
theorem kc_Ve_tidy : Cond.code y_Ve_tidy b_Ve_tidy 2 none ∈ gx_all := gx_in 1108 (by decide +kernel)
